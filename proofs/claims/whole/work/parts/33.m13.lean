/-! THE REFERENCE: perform -/
def ac_ord (v : ps_V) (s : Nat → Nat) : Int32 × (Nat → Nat) := if v.1 = 116 then ac_tilt s (nI v.2.1) (nI v.2.2.2.2) else if v.1 = 112 then ac_pour s (nI v.2.1) (nI v.2.2.1) (nI v.2.2.2.1) (nI v.2.2.2.2) else if v.1 = 106 then ac_jolt s (nI v.2.1) else if v.1 = 101 then ac_empty s (nI v.2.1) else ac_pass s (nI v.2.2.2.2)
theorem W_ord {s : Nat → Nat} (hW : sp_W s) (v : ps_V) : sp_W (ac_ord v s).2 := by
  unfold ac_ord
  split
  · exact W_tilt hW _ _
  · split
    · exact W_pour hW _ _ _ _
    · split
      · exact W_jolt hW _
      · split
        · exact W_empty hW _
        · exact W_pass hW _
def ps_ok (v : ps_V) : Prop := ∃ b c k n, b ≤ 4 ∧ c ≤ 7 ∧ k ≤ 3 ∧ ((v = (46, 0, 0, 0, n) ∧ 1 ≤ n ∧ n ≤ 99) ∨ (v = (116, b, 0, 0, n) ∧ n ≤ 90) ∨ (v = (112, b, c, k, n) ∧ 1 ≤ n ∧ n ≤ 99) ∨ v = (106, b, 0, 0, 0) ∨ v = (101, b, 0, 0, 0))
def ps_go (tx : Nat → Nat) (le : Nat) : Nat → Nat → Nat → Bool × Nat × Nat
  | 0, p, n => (false, p, n)
  | f + 1, p, n => if (ps_ord tx le p).1.1 = true then (if (ps_ord tx le p).1.2 < le then (if (ps_t tx le 59 59 (true, (ps_ord tx le p).1.2)).1 = true then ps_go tx le f ((ps_ord tx le p).1.2 + 1) (n + 1) else (false, (ps_ord tx le p).1.2, n + 1)) else (true, (ps_ord tx le p).1.2, n + 1)) else (false, (ps_ord tx le p).1.2, n + 1)
def ps_do (tx : Nat → Nat) (le : Nat) : Nat → Nat → Nat → (Nat → Nat) → Int32 × Nat × (Nat → Nat)
  | 0, _, n, s => (0, n, s)
  | f + 1, p, n, s => if (ac_ord (ps_ord tx le p).2 s).1 < 0 ∧ ¬ (ac_ord (ps_ord tx le p).2 s).1 = -5 then ((ac_ord (ps_ord tx le p).2 s).1, n, (ac_ord (ps_ord tx le p).2 s).2) else if (ps_ord tx le p).1.2 < le then ps_do tx le f ((ps_ord tx le p).1.2 + 1) (n + 1) (ac_ord (ps_ord tx le p).2 s).2 else (0, n + 1, (ac_ord (ps_ord tx le p).2 s).2)
theorem ps_t_f {tx : Nat → Nat} {le lo hi p : Nat} (h : ¬ (ps_t tx le lo hi (true, p)).1 = true) : ps_t tx le lo hi (true, p) = (false, p) := by
  unfold ps_t at h ⊢
  by_cases c : (true, p).1 = true ∧ (true, p).2 < le ∧ lo ≤ tx (true, p).2 ∧ tx (true, p).2 ≤ hi
  · rw [if_pos c] at h; exact absurd rfl h
  · rw [if_neg c]
theorem tb_MG.upSP {h h' : tb_heap} {m : Nat} {s : Nat → Nat} {kn : Int32} {g : sp_G} {po wr sp sp' : Int32} {as ah cm od : Nat → Int32} {bf : Nat → Nat} (h0 : tb_MG h m s kn g po wr sp as ah cm od bf) (h1 : h' m = some (.inl (6, [.ref (m + 1), .ref (m + 2), .ref (m + 3), .ref (m + 4), .int (nI g.2.1), .ref (m + 5), .int kn, .ref (m + 6), .int (nI g.2.2.2.1), .int g.2.2.2.2.1, .int g.2.2.2.2.2, .ref (m + 7), .int po, .int wr, .ref (m + 8), .int sp']))) (hF : ∀ q, q ≠ m → h' q = h q) : tb_MG h' m s kn g po wr sp' as ah cm od bf :=
  h0.upO (g' := g) h1 ⟨rfl, rfl⟩ hF
section M13
variable {E : tb_env} {d : Nat} {h : tb_heap} {nx : Nat} {Q : Option Value → tb_heap → Nat → Prop} {m : Nat} {s : Nat → Nat} {kn : Int32} {g : sp_G} {sp : Int32} {as ah cm od : Nat → Int32} {bf : Nat → Nat}
theorem m_does {r : Bool × Nat} {v : ps_V} (hM : tb_MP h m s kn g r sp as ah cm od bf) (hv : ps_ok v) (hod : ps_od od v) (hW : sp_W s) (hd : 6 ≤ d) (hQ : ∀ h' cm', tb_MP h' m (ac_ord v s).2 kn g r sp as ah cm' od bf → (∀ q, q ≠ m + 1 → q ≠ m + 7 → h' q = h q) → Q (some (.int (ac_ord v s).1)) h' nx) :
    tb_wp E d 133 0 [.ref m] [] h nx 0 0 Q := by
  have g0 := hM.1.g
  have hO := hM.1.O
  have S0 := tb_MG.S hM
  have hA7 := hM.2.2.2.2.2.2.2.1
  obtain ⟨o0, o1, o2, o3, o4⟩ := hod
  have ld : ∀ {j : Nat} (hj : j < 5) {K : Int32 → Prop}, tb_wF (tb_ld E h 0 (m + 8) (nI j)) K = K (od j) := fun hj => hM.2.2.2.2.2.2.2.2.ld hj (by decide)
  obtain ⟨b, c, k, n, hb, hc, hk, hh⟩ := hv
  have up : ∀ {h' s' cm'}, tb_MS h' m s' → tb_isA h' (m + 7) 0 32 cm' → (∀ q, q ≠ m + 1 → q ≠ m + 7 → h' q = h q) → tb_MP h' m s' kn g r sp as ah cm' od bf := fun a1 a2 a3 => tb_MG.upS hM a1 a2 a3
  rcases hh with ⟨rfl, hn1, hn⟩ | ⟨rfl, hn⟩ | ⟨rfl, hn1, hn⟩ | rfl | rfl <;> dsimp only at o0 o1 o2 o3 o4
  · have e : ac_ord (46, 0, 0, 0, n) s = if 99999 < s 0 + n then (-3, s) else (nI (sp_fell (sp_pass s n)) - nI (sp_fell s), sp_pass s n) := by
      unfold ac_ord ac_pass
      dsimp only
      rw [if_neg (by decide), if_neg (by decide), if_neg (by decide), if_neg (by decide), if_neg (e_ok1 hn1 hn (by decide)), sp_n_nI (by omega)]
    rw [e] at hQ
    have z1 : (nI 46).toInt ≠ 101 := by decide
    have z2 : (nI 46).toInt ≠ 106 := by decide
    have z3 : (nI 46).toInt ≠ 112 := by decide
    have z4 : (nI 46).toInt ≠ 116 := by decide
    have j0 := hW.2.1
    by_cases c9 : 99999 < s 0 + n
    · rw [if_pos c9] at hQ
      have c8 : ¬ s 0 + n ≤ 99999 := by omega
      simp (disch := first | assumption | omega | exact tb_sm0 | exact tb_sm1 _ | exact tb_sm2 _ _ | exact tb_sm3 _ _ _ | exact tb_sm4 _ _ _ _ | exact Or.inl rfl | exact Or.inr rfl | fail) only [r133_0, r133_1, r133_4, r133_5, r133_6_101, r133_6_106, r133_6_112, r133_6_116, r133_6_d, r133_48, r133_49, r133_51, r133_52, r133_55, r133_56, r133_57, r133_58, r133_59, r133_62, r133_63, r133_64, r133_67, r133_68, r133_69, r133_70, r133_73, r133_74, r133_75, r133_76, r133_79, r133_80, r133_81, r133_82, r133_85, r133_86, r133_87, r133_88, r133_91, r133_92, r133_93, r133_96, r133_97, r133_98, r133_99, r133_102, r133_103, r133_104, r133_107, r133_108, r133_109, r133_110, r133_113, r133_114, r133_115, r133_118, r133_119, r133_120, r133_123, r133_124, r133_125, r133_126, r133_129, r133_130, r133_131, r133_132, r133_134, r133_137, r133_139, r133_142, r133_143, r133_144, r133_147, r133_148, r133_149, r133_152, g0, ld, S0.ld, o0, o1, o2, o3, o4, c8, tb_vl_some, tb_vl_none, tb_wF_some, nI_add, pk_mul, e_sub, e_div, tb_nmod, e_dec, e_le, e_lt, e_eq, e_eq0, e_lt0, e_0le, e_0lt, e_le0, if_true, if_false, not_true_eq_false, not_false_eq_true, ite_true, ite_false, Nat.reduceAdd, Nat.reduceMul, Nat.reduceLeDiff, Nat.reduceLT, Nat.reduceEqDiff, Nat.reduceSub, ↓reduceIte, Nat.reduceDiv, Nat.reduceMod]
      exact hQ h cm hM (fun _ _ _ => rfl)
    · rw [if_neg c9] at hQ
      have c8 : s 0 + n ≤ 99999 := by omega
      simp (disch := first | assumption | omega | exact tb_sm0 | exact tb_sm1 _ | exact tb_sm2 _ _ | exact tb_sm3 _ _ _ | exact tb_sm4 _ _ _ _ | exact Or.inl rfl | exact Or.inr rfl | fail) only [r133_0, r133_1, r133_4, r133_5, r133_6_101, r133_6_106, r133_6_112, r133_6_116, r133_6_d, r133_48, r133_49, r133_51, r133_52, r133_55, r133_56, r133_57, r133_58, r133_59, r133_62, r133_63, r133_64, r133_67, r133_68, r133_69, r133_70, r133_73, r133_74, r133_75, r133_76, r133_79, r133_80, r133_81, r133_82, r133_85, r133_86, r133_87, r133_88, r133_91, r133_92, r133_93, r133_96, r133_97, r133_98, r133_99, r133_102, r133_103, r133_104, r133_107, r133_108, r133_109, r133_110, r133_113, r133_114, r133_115, r133_118, r133_119, r133_120, r133_123, r133_124, r133_125, r133_126, r133_129, r133_130, r133_131, r133_132, r133_134, r133_137, r133_139, r133_142, r133_143, r133_144, r133_147, r133_148, r133_149, r133_152, g0, ld, S0.ld, o0, o1, o2, o3, o4, c8, tb_vl_some, tb_vl_none, tb_wF_some, nI_add, pk_mul, e_sub, e_div, tb_nmod, e_dec, e_le, e_lt, e_eq, e_eq0, e_lt0, e_0le, e_0lt, e_le0, if_true, if_false, not_true_eq_false, not_false_eq_true, ite_true, ite_false, Nat.reduceAdd, Nat.reduceMul, Nat.reduceLeDiff, Nat.reduceLT, Nat.reduceEqDiff, Nat.reduceSub, ↓reduceIte, Nat.reduceDiv, Nat.reduceMod]
      refine m_passes S0 hA7 hW.1 hn (by omega) (fun h2 F2 hM2 hA2 hF2 => ?_)
      try simp (disch := first | assumption | omega | exact tb_sm0 | exact tb_sm1 _ | exact tb_sm2 _ _ | exact tb_sm3 _ _ _ | exact tb_sm4 _ _ _ _ | exact Or.inl rfl | exact Or.inr rfl | fail) only [r133_0, r133_1, r133_4, r133_5, r133_6_101, r133_6_106, r133_6_112, r133_6_116, r133_6_d, r133_48, r133_49, r133_51, r133_52, r133_55, r133_56, r133_57, r133_58, r133_59, r133_62, r133_63, r133_64, r133_67, r133_68, r133_69, r133_70, r133_73, r133_74, r133_75, r133_76, r133_79, r133_80, r133_81, r133_82, r133_85, r133_86, r133_87, r133_88, r133_91, r133_92, r133_93, r133_96, r133_97, r133_98, r133_99, r133_102, r133_103, r133_104, r133_107, r133_108, r133_109, r133_110, r133_113, r133_114, r133_115, r133_118, r133_119, r133_120, r133_123, r133_124, r133_125, r133_126, r133_129, r133_130, r133_131, r133_132, r133_134, r133_137, r133_139, r133_142, r133_143, r133_144, r133_147, r133_148, r133_149, r133_152, tb_vl_some, tb_vl_none, tb_wF_some]
      exact hQ h2 F2 (up hM2 hA2 hF2) hF2
  · have j1 := hW.1.2.2.2.1 b (by omega)
    have e : ac_ord (116, b, 0, 0, n) s = if s (13 + b) = n then (-5, s) else (nI (s (13 + b)), va_up s (13 + b) n) := by
      unfold ac_ord ac_tilt
      dsimp only
      rw [if_pos rfl, if_neg (e_ok hb (by decide)), if_neg (e_ok hn (by decide)), sp_n_nI (by omega), sp_n_nI (by omega)]
    rw [e] at hQ
    simp (disch := first | assumption | omega | exact tb_sm0 | exact tb_sm1 _ | exact tb_sm2 _ _ | exact tb_sm3 _ _ _ | exact tb_sm4 _ _ _ _ | exact Or.inl rfl | exact Or.inr rfl | fail) only [r133_0, r133_1, r133_4, r133_5, r133_6_101, r133_6_106, r133_6_112, r133_6_116, r133_6_d, r133_48, r133_49, r133_51, r133_52, r133_55, r133_56, r133_57, r133_58, r133_59, r133_62, r133_63, r133_64, r133_67, r133_68, r133_69, r133_70, r133_73, r133_74, r133_75, r133_76, r133_79, r133_80, r133_81, r133_82, r133_85, r133_86, r133_87, r133_88, r133_91, r133_92, r133_93, r133_96, r133_97, r133_98, r133_99, r133_102, r133_103, r133_104, r133_107, r133_108, r133_109, r133_110, r133_113, r133_114, r133_115, r133_118, r133_119, r133_120, r133_123, r133_124, r133_125, r133_126, r133_129, r133_130, r133_131, r133_132, r133_134, r133_137, r133_139, r133_142, r133_143, r133_144, r133_147, r133_148, r133_149, r133_152, g0, ld, o0, o1, o2, o3, o4, tb_vl_some, tb_vl_none, tb_wF_some, nI_add, pk_mul, e_sub, e_div, tb_nmod, e_dec, e_le, e_lt, e_eq, e_eq0, e_lt0, e_0le, e_0lt, e_le0, if_true, if_false, not_true_eq_false, not_false_eq_true, ite_true, ite_false, Nat.reduceAdd, Nat.reduceMul, Nat.reduceLeDiff, Nat.reduceLT, Nat.reduceEqDiff, Nat.reduceSub, ↓reduceIte, Nat.reduceDiv, Nat.reduceMod]
    refine m_lays S0 (by omega) (by omega) (by omega) (fun h3 hM3 hF3 => ?_)
    have hA3 := hA7.to (hF3 _ (by omega)) (fun _ _ => rfl)
    simp (disch := first | assumption | omega | exact tb_sm0 | exact tb_sm1 _ | exact tb_sm2 _ _ | exact tb_sm3 _ _ _ | exact tb_sm4 _ _ _ _ | exact Or.inl rfl | exact Or.inr rfl | fail) only [r133_0, r133_1, r133_4, r133_5, r133_6_101, r133_6_106, r133_6_112, r133_6_116, r133_6_d, r133_48, r133_49, r133_51, r133_52, r133_55, r133_56, r133_57, r133_58, r133_59, r133_62, r133_63, r133_64, r133_67, r133_68, r133_69, r133_70, r133_73, r133_74, r133_75, r133_76, r133_79, r133_80, r133_81, r133_82, r133_85, r133_86, r133_87, r133_88, r133_91, r133_92, r133_93, r133_96, r133_97, r133_98, r133_99, r133_102, r133_103, r133_104, r133_107, r133_108, r133_109, r133_110, r133_113, r133_114, r133_115, r133_118, r133_119, r133_120, r133_123, r133_124, r133_125, r133_126, r133_129, r133_130, r133_131, r133_132, r133_134, r133_137, r133_139, r133_142, r133_143, r133_144, r133_147, r133_148, r133_149, r133_152, tb_vl_some, tb_vl_none, tb_wF_some]
    by_cases c9 : s (13 + b) = n
    · rw [if_pos c9] at hQ ⊢
      refine hQ h3 cm (up (hM3.to rfl rfl (fun j _ => ?_)) hA3 (fun q q1 _ => hF3 q q1)) (fun q q1 _ => hF3 q q1)
      unfold va_up
      split
      · rename_i q; rw [q]; exact c9.symm
      · rfl
    · rw [if_neg c9] at hQ ⊢
      exact hQ h3 cm (up hM3 hA3 (fun q q1 _ => hF3 q q1)) (fun q q1 _ => hF3 q q1)
  · have e : ac_ord (112, b, c, k, n) s = if 99 < sp_on s b c + n then (-3, s) else (nI (s (48 + 32 * b + 4 * c + k) + n), sp_pour s b c k n) := by
      unfold ac_ord ac_pour
      dsimp only
      rw [if_neg (by decide), if_pos rfl, if_neg (tb_place_ok hb hc hk), if_neg (e_ok1 hn1 hn (by decide)), sp_n_nI (by omega), sp_n_nI (by omega), sp_n_nI (by omega), sp_n_nI (by omega)]
    rw [e] at hQ
    by_cases hf : 99 < sp_on s b c + n
    · rw [if_pos hf] at hQ
      simp (disch := first | assumption | omega | exact tb_sm0 | exact tb_sm1 _ | exact tb_sm2 _ _ | exact tb_sm3 _ _ _ | exact tb_sm4 _ _ _ _ | exact Or.inl rfl | exact Or.inr rfl | fail) only [r133_0, r133_1, r133_4, r133_5, r133_6_101, r133_6_106, r133_6_112, r133_6_116, r133_6_d, r133_48, r133_49, r133_51, r133_52, r133_55, r133_56, r133_57, r133_58, r133_59, r133_62, r133_63, r133_64, r133_67, r133_68, r133_69, r133_70, r133_73, r133_74, r133_75, r133_76, r133_79, r133_80, r133_81, r133_82, r133_85, r133_86, r133_87, r133_88, r133_91, r133_92, r133_93, r133_96, r133_97, r133_98, r133_99, r133_102, r133_103, r133_104, r133_107, r133_108, r133_109, r133_110, r133_113, r133_114, r133_115, r133_118, r133_119, r133_120, r133_123, r133_124, r133_125, r133_126, r133_129, r133_130, r133_131, r133_132, r133_134, r133_137, r133_139, r133_142, r133_143, r133_144, r133_147, r133_148, r133_149, r133_152, g0, ld, o0, o1, o2, o3, o4, m_pours_no S0 hW.1 (show b < 5 by omega) (show c < 8 by omega) (show k < 4 by omega) hn (show 2 ≤ d - 1 by omega) hf, tb_vl_some, tb_vl_none, tb_wF_some, nI_add, pk_mul, e_sub, e_div, tb_nmod, e_dec, e_le, e_lt, e_eq, e_eq0, e_lt0, e_0le, e_0lt, e_le0, if_true, if_false, not_true_eq_false, not_false_eq_true, ite_true, ite_false, Nat.reduceAdd, Nat.reduceMul, Nat.reduceLeDiff, Nat.reduceLT, Nat.reduceEqDiff, Nat.reduceSub, ↓reduceIte, Nat.reduceDiv, Nat.reduceMod]
      exact hQ h cm hM (fun _ _ _ => rfl)
    · rw [if_neg hf] at hQ
      simp (disch := first | assumption | omega | exact tb_sm0 | exact tb_sm1 _ | exact tb_sm2 _ _ | exact tb_sm3 _ _ _ | exact tb_sm4 _ _ _ _ | exact Or.inl rfl | exact Or.inr rfl | fail) only [r133_0, r133_1, r133_4, r133_5, r133_6_101, r133_6_106, r133_6_112, r133_6_116, r133_6_d, r133_48, r133_49, r133_51, r133_52, r133_55, r133_56, r133_57, r133_58, r133_59, r133_62, r133_63, r133_64, r133_67, r133_68, r133_69, r133_70, r133_73, r133_74, r133_75, r133_76, r133_79, r133_80, r133_81, r133_82, r133_85, r133_86, r133_87, r133_88, r133_91, r133_92, r133_93, r133_96, r133_97, r133_98, r133_99, r133_102, r133_103, r133_104, r133_107, r133_108, r133_109, r133_110, r133_113, r133_114, r133_115, r133_118, r133_119, r133_120, r133_123, r133_124, r133_125, r133_126, r133_129, r133_130, r133_131, r133_132, r133_134, r133_137, r133_139, r133_142, r133_143, r133_144, r133_147, r133_148, r133_149, r133_152, g0, ld, o0, o1, o2, o3, o4, tb_vl_some, tb_vl_none, tb_wF_some, nI_add, pk_mul, e_sub, e_div, tb_nmod, e_dec, e_le, e_lt, e_eq, e_eq0, e_lt0, e_0le, e_0lt, e_le0, if_true, if_false, not_true_eq_false, not_false_eq_true, ite_true, ite_false, Nat.reduceAdd, Nat.reduceMul, Nat.reduceLeDiff, Nat.reduceLT, Nat.reduceEqDiff, Nat.reduceSub, ↓reduceIte, Nat.reduceDiv, Nat.reduceMod]
      refine m_pours S0 hW.1 (by omega) (by omega) (by omega) hn (by omega) (by omega) (fun h3 hM3 hF3 => ?_)
      try simp (disch := first | assumption | omega | exact tb_sm0 | exact tb_sm1 _ | exact tb_sm2 _ _ | exact tb_sm3 _ _ _ | exact tb_sm4 _ _ _ _ | exact Or.inl rfl | exact Or.inr rfl | fail) only [r133_0, r133_1, r133_4, r133_5, r133_6_101, r133_6_106, r133_6_112, r133_6_116, r133_6_d, r133_48, r133_49, r133_51, r133_52, r133_55, r133_56, r133_57, r133_58, r133_59, r133_62, r133_63, r133_64, r133_67, r133_68, r133_69, r133_70, r133_73, r133_74, r133_75, r133_76, r133_79, r133_80, r133_81, r133_82, r133_85, r133_86, r133_87, r133_88, r133_91, r133_92, r133_93, r133_96, r133_97, r133_98, r133_99, r133_102, r133_103, r133_104, r133_107, r133_108, r133_109, r133_110, r133_113, r133_114, r133_115, r133_118, r133_119, r133_120, r133_123, r133_124, r133_125, r133_126, r133_129, r133_130, r133_131, r133_132, r133_134, r133_137, r133_139, r133_142, r133_143, r133_144, r133_147, r133_148, r133_149, r133_152, tb_vl_some, tb_vl_none, tb_wF_some]
      exact hQ h3 cm (up hM3 (hA7.to (hF3 _ (by omega)) (fun _ _ => rfl)) (fun q q1 _ => hF3 q q1)) (fun q q1 _ => hF3 q q1)
  · have e : ac_ord (106, b, 0, 0, 0) s = if sp_heaps s b = 0 then (-5, s) else (nI (sp_heaps s b), sp_jolt s b) := by
      unfold ac_ord ac_jolt
      dsimp only
      rw [if_neg (by decide), if_neg (by decide), if_pos rfl, if_neg (e_ok hb (by decide)), sp_n_nI (by omega)]
    rw [e] at hQ
    simp (disch := first | assumption | omega | exact tb_sm0 | exact tb_sm1 _ | exact tb_sm2 _ _ | exact tb_sm3 _ _ _ | exact tb_sm4 _ _ _ _ | exact Or.inl rfl | exact Or.inr rfl | fail) only [r133_0, r133_1, r133_4, r133_5, r133_6_101, r133_6_106, r133_6_112, r133_6_116, r133_6_d, r133_48, r133_49, r133_51, r133_52, r133_55, r133_56, r133_57, r133_58, r133_59, r133_62, r133_63, r133_64, r133_67, r133_68, r133_69, r133_70, r133_73, r133_74, r133_75, r133_76, r133_79, r133_80, r133_81, r133_82, r133_85, r133_86, r133_87, r133_88, r133_91, r133_92, r133_93, r133_96, r133_97, r133_98, r133_99, r133_102, r133_103, r133_104, r133_107, r133_108, r133_109, r133_110, r133_113, r133_114, r133_115, r133_118, r133_119, r133_120, r133_123, r133_124, r133_125, r133_126, r133_129, r133_130, r133_131, r133_132, r133_134, r133_137, r133_139, r133_142, r133_143, r133_144, r133_147, r133_148, r133_149, r133_152, g0, ld, o0, o1, o2, o3, o4, tb_vl_some, tb_vl_none, tb_wF_some, nI_add, pk_mul, e_sub, e_div, tb_nmod, e_dec, e_le, e_lt, e_eq, e_eq0, e_lt0, e_0le, e_0lt, e_le0, if_true, if_false, not_true_eq_false, not_false_eq_true, ite_true, ite_false, Nat.reduceAdd, Nat.reduceMul, Nat.reduceLeDiff, Nat.reduceLT, Nat.reduceEqDiff, Nat.reduceSub, ↓reduceIte, Nat.reduceDiv, Nat.reduceMod]
    refine m_jolts S0 hW.1 (by omega) (by omega) (fun h3 hM3 hF3 => ?_)
    have hA3 := hA7.to (hF3 _ (by omega)) (fun _ _ => rfl)
    simp (disch := first | assumption | omega | exact tb_sm0 | exact tb_sm1 _ | exact tb_sm2 _ _ | exact tb_sm3 _ _ _ | exact tb_sm4 _ _ _ _ | exact Or.inl rfl | exact Or.inr rfl | fail) only [r133_0, r133_1, r133_4, r133_5, r133_6_101, r133_6_106, r133_6_112, r133_6_116, r133_6_d, r133_48, r133_49, r133_51, r133_52, r133_55, r133_56, r133_57, r133_58, r133_59, r133_62, r133_63, r133_64, r133_67, r133_68, r133_69, r133_70, r133_73, r133_74, r133_75, r133_76, r133_79, r133_80, r133_81, r133_82, r133_85, r133_86, r133_87, r133_88, r133_91, r133_92, r133_93, r133_96, r133_97, r133_98, r133_99, r133_102, r133_103, r133_104, r133_107, r133_108, r133_109, r133_110, r133_113, r133_114, r133_115, r133_118, r133_119, r133_120, r133_123, r133_124, r133_125, r133_126, r133_129, r133_130, r133_131, r133_132, r133_134, r133_137, r133_139, r133_142, r133_143, r133_144, r133_147, r133_148, r133_149, r133_152, tb_vl_some, tb_vl_none, tb_wF_some]
    by_cases c9 : sp_heaps s b = 0
    · rw [if_pos c9] at hQ ⊢
      exact hQ h3 cm (up (hM3.to rfl rfl (fun j _ => sp_jolt_0 c9 j)) hA3 (fun q q1 _ => hF3 q q1)) (fun q q1 _ => hF3 q q1)
    · rw [if_neg c9] at hQ ⊢
      exact hQ h3 cm (up hM3 hA3 (fun q q1 _ => hF3 q q1)) (fun q q1 _ => hF3 q q1)
  · have e : ac_ord (101, b, 0, 0, 0) s = if sp_pan s b = 0 then (-5, s) else (nI (sp_pan s b), sp_empty s b) := by
      unfold ac_ord ac_empty
      dsimp only
      rw [if_neg (by decide), if_neg (by decide), if_neg (by decide), if_pos rfl, if_neg (e_ok hb (by decide)), sp_n_nI (by omega)]
    rw [e] at hQ
    simp (disch := first | assumption | omega | exact tb_sm0 | exact tb_sm1 _ | exact tb_sm2 _ _ | exact tb_sm3 _ _ _ | exact tb_sm4 _ _ _ _ | exact Or.inl rfl | exact Or.inr rfl | fail) only [r133_0, r133_1, r133_4, r133_5, r133_6_101, r133_6_106, r133_6_112, r133_6_116, r133_6_d, r133_48, r133_49, r133_51, r133_52, r133_55, r133_56, r133_57, r133_58, r133_59, r133_62, r133_63, r133_64, r133_67, r133_68, r133_69, r133_70, r133_73, r133_74, r133_75, r133_76, r133_79, r133_80, r133_81, r133_82, r133_85, r133_86, r133_87, r133_88, r133_91, r133_92, r133_93, r133_96, r133_97, r133_98, r133_99, r133_102, r133_103, r133_104, r133_107, r133_108, r133_109, r133_110, r133_113, r133_114, r133_115, r133_118, r133_119, r133_120, r133_123, r133_124, r133_125, r133_126, r133_129, r133_130, r133_131, r133_132, r133_134, r133_137, r133_139, r133_142, r133_143, r133_144, r133_147, r133_148, r133_149, r133_152, g0, ld, o0, o1, o2, o3, o4, tb_vl_some, tb_vl_none, tb_wF_some, nI_add, pk_mul, e_sub, e_div, tb_nmod, e_dec, e_le, e_lt, e_eq, e_eq0, e_lt0, e_0le, e_0lt, e_le0, if_true, if_false, not_true_eq_false, not_false_eq_true, ite_true, ite_false, Nat.reduceAdd, Nat.reduceMul, Nat.reduceLeDiff, Nat.reduceLT, Nat.reduceEqDiff, Nat.reduceSub, ↓reduceIte, Nat.reduceDiv, Nat.reduceMod]
    refine m_empties S0 (by omega) (sp_pan_lt hW.2 (by omega)) (by omega) (fun h3 hM3 hF3 => ?_)
    have hA3 := hA7.to (hF3 _ (by omega)) (fun _ _ => rfl)
    simp (disch := first | assumption | omega | exact tb_sm0 | exact tb_sm1 _ | exact tb_sm2 _ _ | exact tb_sm3 _ _ _ | exact tb_sm4 _ _ _ _ | exact Or.inl rfl | exact Or.inr rfl | fail) only [r133_0, r133_1, r133_4, r133_5, r133_6_101, r133_6_106, r133_6_112, r133_6_116, r133_6_d, r133_48, r133_49, r133_51, r133_52, r133_55, r133_56, r133_57, r133_58, r133_59, r133_62, r133_63, r133_64, r133_67, r133_68, r133_69, r133_70, r133_73, r133_74, r133_75, r133_76, r133_79, r133_80, r133_81, r133_82, r133_85, r133_86, r133_87, r133_88, r133_91, r133_92, r133_93, r133_96, r133_97, r133_98, r133_99, r133_102, r133_103, r133_104, r133_107, r133_108, r133_109, r133_110, r133_113, r133_114, r133_115, r133_118, r133_119, r133_120, r133_123, r133_124, r133_125, r133_126, r133_129, r133_130, r133_131, r133_132, r133_134, r133_137, r133_139, r133_142, r133_143, r133_144, r133_147, r133_148, r133_149, r133_152, tb_vl_some, tb_vl_none, tb_wF_some]
    by_cases c9 : sp_pan s b = 0
    · rw [if_pos c9] at hQ ⊢
      exact hQ h3 cm (up (hM3.to rfl rfl (fun j _ => sp_empty_0 c9 j)) hA3 (fun q q1 _ => hF3 q q1)) (fun q q1 _ => hF3 q q1)
    · rw [if_neg c9] at hQ ⊢
      exact hQ h3 cm (up hM3 hA3 (fun q q1 _ => hF3 q q1)) (fun q q1 _ => hF3 q q1)
theorem m_go0 (hT : ∀ j, g.2.2.1 j < 65536) (h60 : g.2.2.2.1 ≤ 60) (hd : 4 ≤ d) (f : Nat) : ∀ (p n : Nat) (h : tb_heap) (sp : Int32) (od : Nat → Int32) (y z : Value), g.2.2.2.1 + 1 ≤ p + f → p ≤ g.2.2.2.1 → n ≤ p → tb_MP h m s kn g (true, p) sp as ah cm od bf → (∀ h' od' sp', tb_MP h' m s kn g ((ps_go g.2.2.1 g.2.2.2.1 f p n).1, (ps_go g.2.2.1 g.2.2.2.1 f p n).2.1) sp' as ah cm od' bf → (∀ q, q ≠ m → q ≠ m + 8 → h' q = h q) → Q (some (.int (nI (ps_go g.2.2.1 g.2.2.2.1 f p n).2.2))) h' nx) →
    tb_wp E d 134 19 [.ref m, .int (nI 0), .int (nI n), .int (nI 1), y, z] [] h nx 0 0 Q := by
  induction f with
  | zero => intro p n h sp od y z h1 h2 h3 hM hQ; exact absurd h1 (by omega)
  | succ f ih =>
    intro p n h sp od y z h1 h2 h3 hM hQ
    have hO := hM.1.O
    have hend : ∀ (h' : tb_heap) (n' : Nat) (y z : Value), Q (some (.int (nI n'))) h' nx → tb_wp E d 134 19 [.ref m, .int (nI 0), .int (nI n'), .int (nI 0), y, z] [] h' nx 0 0 Q := by
      intro h' n' y z hq
      simp (disch := first | assumption | omega | exact tb_sm0 | exact tb_sm1 _ | exact tb_sm2 _ _ | exact tb_sm3 _ _ _ | exact tb_sm4 _ _ _ _ | exact Or.inl rfl | exact Or.inr rfl | fail) only [r134_0, r134_1, r134_2, r134_5, r134_6, r134_7, r134_10, r134_11, r134_12, r134_15, r134_16, r134_17, r134_18, r134_19, r134_20, r134_23, r134_24, r134_27, r134_28, r134_31, r134_32, r134_35, r134_38, r134_39, r134_41, r134_42, r134_44, r134_47, r134_49, r134_51, r134_54, r134_56, r134_59, r134_60, r134_63, r134_64, r134_65, r134_68, r134_71, r134_72, r134_75, r134_76, r134_77, r134_78, r134_79, r134_82, r134_85, r134_86, r134_89, r134_92, r134_93, r134_96, r134_97, r134_100, r134_103, r134_104, r134_107, r134_108, r134_109, r134_110, r134_113, r134_114, r134_116, r134_118, r134_121, r134_123, r134_124, r134_127, r134_130, r134_131, r134_134, r134_135, r134_136, r134_139, r134_140, nI_add, pk_mul, e_sub, e_div, tb_nmod, e_dec, e_le, e_lt, e_eq, e_eq0, e_lt0, e_0le, e_0lt, e_le0, if_true, if_false, not_true_eq_false, not_false_eq_true, ite_true, ite_false, Nat.reduceAdd, Nat.reduceMul, Nat.reduceLeDiff, Nat.reduceLT, Nat.reduceEqDiff, Nat.reduceSub, ↓reduceIte, Nat.reduceDiv, Nat.reduceMod]
      exact hq
    simp (disch := first | assumption | omega | exact tb_sm0 | exact tb_sm1 _ | exact tb_sm2 _ _ | exact tb_sm3 _ _ _ | exact tb_sm4 _ _ _ _ | exact Or.inl rfl | exact Or.inr rfl | fail) only [r134_19, r134_20, nI_add, pk_mul, e_sub, e_div, tb_nmod, e_dec, e_le, e_lt, e_eq, e_eq0, e_lt0, e_0le, e_0lt, e_le0, if_true, if_false, not_true_eq_false, not_false_eq_true, ite_true, ite_false, Nat.reduceAdd, Nat.reduceMul, Nat.reduceLeDiff, Nat.reduceLT, Nat.reduceEqDiff, Nat.reduceSub, ↓reduceIte, Nat.reduceDiv, Nat.reduceMod]
    simp (disch := first | assumption | omega | exact tb_sm0 | exact tb_sm1 _ | exact tb_sm2 _ _ | exact tb_sm3 _ _ _ | exact tb_sm4 _ _ _ _ | exact Or.inl rfl | exact Or.inr rfl | fail) only [r134_0, r134_1, r134_2, r134_5, r134_6, r134_7, r134_10, r134_11, r134_12, r134_15, r134_16, r134_17, r134_18, r134_20, r134_23, r134_24, r134_27, r134_28, r134_31, r134_32, r134_35, r134_38, r134_39, r134_41, r134_42, r134_44, r134_47, r134_49, r134_51, r134_54, r134_56, r134_59, r134_60, r134_63, r134_64, r134_65, r134_68, r134_71, r134_72, r134_75, r134_76, r134_77, r134_78, r134_79, r134_82, r134_85, r134_86, r134_89, r134_92, r134_93, r134_96, r134_97, r134_100, r134_103, r134_104, r134_107, r134_108, r134_109, r134_110, r134_113, r134_114, r134_116, r134_118, r134_121, r134_123, r134_124, r134_127, r134_130, r134_131, r134_134, r134_135, r134_136, r134_139, r134_140]
    refine m_readOrder hM hT h60 h2 (by omega) (fun h2' od2 hM2 hF2 hv2 => ?_)
    have hle := ps_ord_le (tx := g.2.2.1) h2
    have hok := ps_ord_ok (tx := g.2.2.1) (le := g.2.2.2.1) (p := p)
    rw [ps_go] at hQ
    generalize ps_ord g.2.2.1 g.2.2.2.1 p = o at *
    obtain ⟨⟨ok, p2⟩, v⟩ := o
    dsimp only at hM2 hv2 hle hok hQ
    simp (disch := first | assumption | omega | exact tb_sm0 | exact tb_sm1 _ | exact tb_sm2 _ _ | exact tb_sm3 _ _ _ | exact tb_sm4 _ _ _ _ | exact Or.inl rfl | exact Or.inr rfl | fail) only [r134_0, r134_1, r134_2, r134_5, r134_6, r134_7, r134_10, r134_11, r134_12, r134_15, r134_16, r134_17, r134_18, r134_20, r134_23, r134_24, r134_27, r134_28, r134_31, r134_32, r134_35, r134_38, r134_39, r134_41, r134_42, r134_44, r134_47, r134_49, r134_51, r134_54, r134_56, r134_59, r134_60, r134_63, r134_64, r134_65, r134_68, r134_71, r134_72, r134_75, r134_76, r134_77, r134_78, r134_79, r134_82, r134_85, r134_86, r134_89, r134_92, r134_93, r134_96, r134_97, r134_100, r134_103, r134_104, r134_107, r134_108, r134_109, r134_110, r134_113, r134_114, r134_116, r134_118, r134_121, r134_123, r134_124, r134_127, r134_130, r134_131, r134_134, r134_135, r134_136, r134_139, r134_140, tb_vl_some, tb_vl_none, tb_wF_some, nI_add, pk_mul, e_sub, e_div, tb_nmod, e_dec, e_le, e_lt, e_eq, e_eq0, e_lt0, e_0le, e_0lt, e_le0, if_true, if_false, not_true_eq_false, not_false_eq_true, ite_true, ite_false, Nat.reduceAdd, Nat.reduceMul, Nat.reduceLeDiff, Nat.reduceLT, Nat.reduceEqDiff, Nat.reduceSub, ↓reduceIte, Nat.reduceDiv, Nat.reduceMod]
    refine tb_pf_ok hM2.1 (by simp) (fun h3' h31 h32 => ?_)
    have hM3 : tb_MP h3' m s kn g (ok, p2) (nI 0) as ah cm od2 bf := tb_MG.upSP hM2 h31 h32
    have g3 := hM3.1.g
    have hO3 := hM3.1.O
    have fr : ∀ q, q ≠ m → q ≠ m + 8 → h3' q = h q := fun q q1 q2 => by rw [h32 q q1, hF2 q q1 q2]
    cases ok with
    | false =>
      have e0 : ps_w (false, p2).1 = 1 := rfl
      rw [if_neg (by decide)] at hQ
      simp (disch := first | assumption | omega | exact tb_sm0 | exact tb_sm1 _ | exact tb_sm2 _ _ | exact tb_sm3 _ _ _ | exact tb_sm4 _ _ _ _ | exact Or.inl rfl | exact Or.inr rfl | fail) only [r134_0, r134_1, r134_2, r134_5, r134_6, r134_7, r134_10, r134_11, r134_12, r134_15, r134_16, r134_17, r134_18, r134_20, r134_23, r134_24, r134_27, r134_28, r134_31, r134_32, r134_35, r134_38, r134_39, r134_41, r134_42, r134_44, r134_47, r134_49, r134_51, r134_54, r134_56, r134_59, r134_60, r134_63, r134_64, r134_65, r134_68, r134_71, r134_72, r134_75, r134_76, r134_77, r134_78, r134_79, r134_82, r134_85, r134_86, r134_89, r134_92, r134_93, r134_96, r134_97, r134_100, r134_103, r134_104, r134_107, r134_108, r134_109, r134_110, r134_113, r134_114, r134_116, r134_118, r134_121, r134_123, r134_124, r134_127, r134_130, r134_131, r134_134, r134_135, r134_136, r134_139, r134_140, g3, e0, tb_vl_some, tb_vl_none, tb_wF_some, nI_add, pk_mul, e_sub, e_div, tb_nmod, e_dec, e_le, e_lt, e_eq, e_eq0, e_lt0, e_0le, e_0lt, e_le0, if_true, if_false, not_true_eq_false, not_false_eq_true, ite_true, ite_false, Nat.reduceAdd, Nat.reduceMul, Nat.reduceLeDiff, Nat.reduceLT, Nat.reduceEqDiff, Nat.reduceSub, ↓reduceIte, Nat.reduceDiv, Nat.reduceMod]
      exact hend _ _ _ _ (hQ h3' od2 (nI 0) hM3 fr)
    | true =>
      have e0 : ps_w (true, p2).1 = 0 := rfl
      obtain ⟨k1, k2, -⟩ := hok rfl
      rw [if_pos rfl] at hQ
      by_cases c1 : p2 < g.2.2.2.1
      · rw [if_pos c1] at hQ
        have hpl : ¬ g.2.2.2.1 ≤ p2 := by omega
        simp (disch := first | assumption | omega | exact tb_sm0 | exact tb_sm1 _ | exact tb_sm2 _ _ | exact tb_sm3 _ _ _ | exact tb_sm4 _ _ _ _ | exact Or.inl rfl | exact Or.inr rfl | fail) only [r134_0, r134_1, r134_2, r134_5, r134_6, r134_7, r134_10, r134_11, r134_12, r134_15, r134_16, r134_17, r134_18, r134_20, r134_23, r134_24, r134_27, r134_28, r134_31, r134_32, r134_35, r134_38, r134_39, r134_41, r134_42, r134_44, r134_47, r134_49, r134_51, r134_54, r134_56, r134_59, r134_60, r134_63, r134_64, r134_65, r134_68, r134_71, r134_72, r134_75, r134_76, r134_77, r134_78, r134_79, r134_82, r134_85, r134_86, r134_89, r134_92, r134_93, r134_96, r134_97, r134_100, r134_103, r134_104, r134_107, r134_108, r134_109, r134_110, r134_113, r134_114, r134_116, r134_118, r134_121, r134_123, r134_124, r134_127, r134_130, r134_131, r134_134, r134_135, r134_136, r134_139, r134_140, g3, e0, hpl, tb_vl_some, tb_vl_none, tb_wF_some, nI_add, pk_mul, e_sub, e_div, tb_nmod, e_dec, e_le, e_lt, e_eq, e_eq0, e_lt0, e_0le, e_0lt, e_le0, if_true, if_false, not_true_eq_false, not_false_eq_true, ite_true, ite_false, Nat.reduceAdd, Nat.reduceMul, Nat.reduceLeDiff, Nat.reduceLT, Nat.reduceEqDiff, Nat.reduceSub, ↓reduceIte, Nat.reduceDiv, Nat.reduceMod]
        refine m_takes hM3 hT h60 (by dsimp only; omega) (by decide) (by decide) (by decide) (by omega) (fun h4 v4 hM4 hF4 _ => ?_)
        have g4 := hM4.1.g
        have fr4 : ∀ q, q ≠ m → q ≠ m + 8 → h4 q = h q := fun q q1 q2 => by rw [hF4 q q1, fr q q1 q2]
        by_cases c2 : (ps_t g.2.2.1 g.2.2.2.1 59 59 (true, p2)).1 = true
        · rw [if_pos c2] at hQ
          have e4 : ps_t g.2.2.1 g.2.2.2.1 59 59 (true, p2) = (true, p2 + 1) := Prod.ext c2 (ps_t_ok c2).2.2.2.2
          rw [e4] at hM4 g4
          have e5 : ps_w (true, p2 + 1).1 = 0 := rfl
          simp (disch := first | assumption | omega | exact tb_sm0 | exact tb_sm1 _ | exact tb_sm2 _ _ | exact tb_sm3 _ _ _ | exact tb_sm4 _ _ _ _ | exact Or.inl rfl | exact Or.inr rfl | fail) only [r134_0, r134_1, r134_2, r134_5, r134_6, r134_7, r134_10, r134_11, r134_12, r134_15, r134_16, r134_17, r134_18, r134_20, r134_23, r134_24, r134_27, r134_28, r134_31, r134_32, r134_35, r134_38, r134_39, r134_41, r134_42, r134_44, r134_47, r134_49, r134_51, r134_54, r134_56, r134_59, r134_60, r134_63, r134_64, r134_65, r134_68, r134_71, r134_72, r134_75, r134_76, r134_77, r134_78, r134_79, r134_82, r134_85, r134_86, r134_89, r134_92, r134_93, r134_96, r134_97, r134_100, r134_103, r134_104, r134_107, r134_108, r134_109, r134_110, r134_113, r134_114, r134_116, r134_118, r134_121, r134_123, r134_124, r134_127, r134_130, r134_131, r134_134, r134_135, r134_136, r134_139, r134_140, g4, e5, tb_vl_some, tb_vl_none, tb_wF_some, nI_add, pk_mul, e_sub, e_div, tb_nmod, e_dec, e_le, e_lt, e_eq, e_eq0, e_lt0, e_0le, e_0lt, e_le0, if_true, if_false, not_true_eq_false, not_false_eq_true, ite_true, ite_false, Nat.reduceAdd, Nat.reduceMul, Nat.reduceLeDiff, Nat.reduceLT, Nat.reduceEqDiff, Nat.reduceSub, ↓reduceIte, Nat.reduceDiv, Nat.reduceMod]
          exact ih (p2 + 1) (n + 1) h4 _ od2 _ _ (by omega) (by omega) (by omega) hM4 (fun h5 od5 sp5 h51 h52 => hQ h5 od5 sp5 h51 (fun q q1 q2 => by rw [h52 q q1 q2, fr4 q q1 q2]))
        · rw [if_neg c2] at hQ
          rw [ps_t_f c2] at hM4 g4
          have e5 : ps_w (false, p2).1 = 1 := rfl
          simp (disch := first | assumption | omega | exact tb_sm0 | exact tb_sm1 _ | exact tb_sm2 _ _ | exact tb_sm3 _ _ _ | exact tb_sm4 _ _ _ _ | exact Or.inl rfl | exact Or.inr rfl | fail) only [r134_0, r134_1, r134_2, r134_5, r134_6, r134_7, r134_10, r134_11, r134_12, r134_15, r134_16, r134_17, r134_18, r134_20, r134_23, r134_24, r134_27, r134_28, r134_31, r134_32, r134_35, r134_38, r134_39, r134_41, r134_42, r134_44, r134_47, r134_49, r134_51, r134_54, r134_56, r134_59, r134_60, r134_63, r134_64, r134_65, r134_68, r134_71, r134_72, r134_75, r134_76, r134_77, r134_78, r134_79, r134_82, r134_85, r134_86, r134_89, r134_92, r134_93, r134_96, r134_97, r134_100, r134_103, r134_104, r134_107, r134_108, r134_109, r134_110, r134_113, r134_114, r134_116, r134_118, r134_121, r134_123, r134_124, r134_127, r134_130, r134_131, r134_134, r134_135, r134_136, r134_139, r134_140, g4, e5, tb_vl_some, tb_vl_none, tb_wF_some, nI_add, pk_mul, e_sub, e_div, tb_nmod, e_dec, e_le, e_lt, e_eq, e_eq0, e_lt0, e_0le, e_0lt, e_le0, if_true, if_false, not_true_eq_false, not_false_eq_true, ite_true, ite_false, Nat.reduceAdd, Nat.reduceMul, Nat.reduceLeDiff, Nat.reduceLT, Nat.reduceEqDiff, Nat.reduceSub, ↓reduceIte, Nat.reduceDiv, Nat.reduceMod]
          exact hend _ _ _ _ (hQ h4 od2 _ hM4 fr4)
      · rw [if_neg c1] at hQ
        have hpl : g.2.2.2.1 ≤ p2 := by omega
        simp (disch := first | assumption | omega | exact tb_sm0 | exact tb_sm1 _ | exact tb_sm2 _ _ | exact tb_sm3 _ _ _ | exact tb_sm4 _ _ _ _ | exact Or.inl rfl | exact Or.inr rfl | fail) only [r134_0, r134_1, r134_2, r134_5, r134_6, r134_7, r134_10, r134_11, r134_12, r134_15, r134_16, r134_17, r134_18, r134_20, r134_23, r134_24, r134_27, r134_28, r134_31, r134_32, r134_35, r134_38, r134_39, r134_41, r134_42, r134_44, r134_47, r134_49, r134_51, r134_54, r134_56, r134_59, r134_60, r134_63, r134_64, r134_65, r134_68, r134_71, r134_72, r134_75, r134_76, r134_77, r134_78, r134_79, r134_82, r134_85, r134_86, r134_89, r134_92, r134_93, r134_96, r134_97, r134_100, r134_103, r134_104, r134_107, r134_108, r134_109, r134_110, r134_113, r134_114, r134_116, r134_118, r134_121, r134_123, r134_124, r134_127, r134_130, r134_131, r134_134, r134_135, r134_136, r134_139, r134_140, g3, e0, hpl, tb_vl_some, tb_vl_none, tb_wF_some, nI_add, pk_mul, e_sub, e_div, tb_nmod, e_dec, e_le, e_lt, e_eq, e_eq0, e_lt0, e_0le, e_0lt, e_le0, if_true, if_false, not_true_eq_false, not_false_eq_true, ite_true, ite_false, Nat.reduceAdd, Nat.reduceMul, Nat.reduceLeDiff, Nat.reduceLT, Nat.reduceEqDiff, Nat.reduceSub, ↓reduceIte, Nat.reduceDiv, Nat.reduceMod]
        exact hend _ _ _ _ (hQ h3' od2 (nI 0) hM3 fr)
theorem m_go1 (hT : ∀ j, g.2.2.1 j < 65536) (h60 : g.2.2.2.1 ≤ 60) (hd : 7 ≤ d) (f : Nat) : ∀ (p n n0 : Nat) (h : tb_heap) (s : Nat → Nat) (sp : Int32) (cm od : Nat → Int32) (y z : Value), g.2.2.2.1 + 1 ≤ p + f → p ≤ g.2.2.2.1 → (ps_go g.2.2.1 g.2.2.2.1 f p n0).1 = true → sp_W s → tb_MP h m s kn g (true, p) sp as ah cm od bf → (∀ h' r' od' cm', tb_MP h' m (ps_do g.2.2.1 g.2.2.2.1 f p n s).2.2 kn g r' (ps_do g.2.2.1 g.2.2.2.1 f p n s).1 as ah cm' od' bf → tb_out h h' m (m + 9) → Q (some (.int (nI (ps_do g.2.2.1 g.2.2.2.1 f p n s).2.1))) h' nx) →
    tb_wp E d 134 19 [.ref m, .int (nI 1), .int (nI n), .int (nI 1), y, z] [] h nx 0 0 Q := by
  induction f with
  | zero => intro p n n0 h s sp cm od y z h1 h2 h3 hW hM hQ; exact absurd h1 (by omega)
  | succ f ih =>
    intro p n n0 h s sp cm od y z h1 h2 h3 hW hM hQ
    have hO := hM.1.O
    have hend : ∀ (h' : tb_heap) (n' : Nat) (y z : Value), Q (some (.int (nI n'))) h' nx → tb_wp E d 134 19 [.ref m, .int (nI 1), .int (nI n'), .int (nI 0), y, z] [] h' nx 0 0 Q := by
      intro h' n' y z hq
      simp (disch := first | assumption | omega | exact tb_sm0 | exact tb_sm1 _ | exact tb_sm2 _ _ | exact tb_sm3 _ _ _ | exact tb_sm4 _ _ _ _ | exact Or.inl rfl | exact Or.inr rfl | fail) only [r134_0, r134_1, r134_2, r134_5, r134_6, r134_7, r134_10, r134_11, r134_12, r134_15, r134_16, r134_17, r134_18, r134_19, r134_20, r134_23, r134_24, r134_27, r134_28, r134_31, r134_32, r134_35, r134_38, r134_39, r134_41, r134_42, r134_44, r134_47, r134_49, r134_51, r134_54, r134_56, r134_59, r134_60, r134_63, r134_64, r134_65, r134_68, r134_71, r134_72, r134_75, r134_76, r134_77, r134_78, r134_79, r134_82, r134_85, r134_86, r134_89, r134_92, r134_93, r134_96, r134_97, r134_100, r134_103, r134_104, r134_107, r134_108, r134_109, r134_110, r134_113, r134_114, r134_116, r134_118, r134_121, r134_123, r134_124, r134_127, r134_130, r134_131, r134_134, r134_135, r134_136, r134_139, r134_140, nI_add, pk_mul, e_sub, e_div, tb_nmod, e_dec, e_le, e_lt, e_eq, e_eq0, e_lt0, e_0le, e_0lt, e_le0, if_true, if_false, not_true_eq_false, not_false_eq_true, ite_true, ite_false, Nat.reduceAdd, Nat.reduceMul, Nat.reduceLeDiff, Nat.reduceLT, Nat.reduceEqDiff, Nat.reduceSub, ↓reduceIte, Nat.reduceDiv, Nat.reduceMod]
      exact hq
    simp (disch := first | assumption | omega | exact tb_sm0 | exact tb_sm1 _ | exact tb_sm2 _ _ | exact tb_sm3 _ _ _ | exact tb_sm4 _ _ _ _ | exact Or.inl rfl | exact Or.inr rfl | fail) only [r134_19, r134_20, nI_add, pk_mul, e_sub, e_div, tb_nmod, e_dec, e_le, e_lt, e_eq, e_eq0, e_lt0, e_0le, e_0lt, e_le0, if_true, if_false, not_true_eq_false, not_false_eq_true, ite_true, ite_false, Nat.reduceAdd, Nat.reduceMul, Nat.reduceLeDiff, Nat.reduceLT, Nat.reduceEqDiff, Nat.reduceSub, ↓reduceIte, Nat.reduceDiv, Nat.reduceMod]
    simp (disch := first | assumption | omega | exact tb_sm0 | exact tb_sm1 _ | exact tb_sm2 _ _ | exact tb_sm3 _ _ _ | exact tb_sm4 _ _ _ _ | exact Or.inl rfl | exact Or.inr rfl | fail) only [r134_0, r134_1, r134_2, r134_5, r134_6, r134_7, r134_10, r134_11, r134_12, r134_15, r134_16, r134_17, r134_18, r134_20, r134_23, r134_24, r134_27, r134_28, r134_31, r134_32, r134_35, r134_38, r134_39, r134_41, r134_42, r134_44, r134_47, r134_49, r134_51, r134_54, r134_56, r134_59, r134_60, r134_63, r134_64, r134_65, r134_68, r134_71, r134_72, r134_75, r134_76, r134_77, r134_78, r134_79, r134_82, r134_85, r134_86, r134_89, r134_92, r134_93, r134_96, r134_97, r134_100, r134_103, r134_104, r134_107, r134_108, r134_109, r134_110, r134_113, r134_114, r134_116, r134_118, r134_121, r134_123, r134_124, r134_127, r134_130, r134_131, r134_134, r134_135, r134_136, r134_139, r134_140]
    refine m_readOrder hM hT h60 h2 (by omega) (fun h2' od2 hM2 hF2 hv2 => ?_)
    have hok := ps_ord_ok (tx := g.2.2.1) (le := g.2.2.2.1) (p := p)
    rw [ps_do] at hQ
    rw [ps_go] at h3
    generalize ps_ord g.2.2.1 g.2.2.2.1 p = o at *
    obtain ⟨⟨ok, p2⟩, v⟩ := o
    dsimp only at hM2 hv2 hok hQ h3
    have eok : ok = true := by
      cases ok with
      | true => rfl
      | false => rw [if_neg (by decide)] at h3; cases h3
    subst eok
    rw [if_pos rfl] at h3
    obtain ⟨k1, k2, k3⟩ := hok rfl
    have hO2 := hM2.1.O
    simp (disch := first | assumption | omega | exact tb_sm0 | exact tb_sm1 _ | exact tb_sm2 _ _ | exact tb_sm3 _ _ _ | exact tb_sm4 _ _ _ _ | exact Or.inl rfl | exact Or.inr rfl | fail) only [r134_0, r134_1, r134_2, r134_5, r134_6, r134_7, r134_10, r134_11, r134_12, r134_15, r134_16, r134_17, r134_18, r134_20, r134_23, r134_24, r134_27, r134_28, r134_31, r134_32, r134_35, r134_38, r134_39, r134_41, r134_42, r134_44, r134_47, r134_49, r134_51, r134_54, r134_56, r134_59, r134_60, r134_63, r134_64, r134_65, r134_68, r134_71, r134_72, r134_75, r134_76, r134_77, r134_78, r134_79, r134_82, r134_85, r134_86, r134_89, r134_92, r134_93, r134_96, r134_97, r134_100, r134_103, r134_104, r134_107, r134_108, r134_109, r134_110, r134_113, r134_114, r134_116, r134_118, r134_121, r134_123, r134_124, r134_127, r134_130, r134_131, r134_134, r134_135, r134_136, r134_139, r134_140, tb_vl_some, tb_vl_none, tb_wF_some, nI_add, pk_mul, e_sub, e_div, tb_nmod, e_dec, e_le, e_lt, e_eq, e_eq0, e_lt0, e_0le, e_0lt, e_le0, if_true, if_false, not_true_eq_false, not_false_eq_true, ite_true, ite_false, Nat.reduceAdd, Nat.reduceMul, Nat.reduceLeDiff, Nat.reduceLT, Nat.reduceEqDiff, Nat.reduceSub, ↓reduceIte, Nat.reduceDiv, Nat.reduceMod]
    refine m_does hM2 k3 (hv2 rfl) hW (by omega) (fun h3' cm3 hM3 hF3 => ?_)
    have hW3 := W_ord hW v
    have fr : tb_out h h3' m (m + 9) := fun q hq => by rw [hF3 q (by omega) (by omega), hF2 q (by omega) (by omega)]
    generalize ac_ord v s = A at *
    obtain ⟨x, s3⟩ := A
    dsimp only at hQ hM3 hW3
    have e0 : ps_w (true, p2).1 = 0 := rfl
    have go : ∀ (y : Value), ¬ (x < 0 ∧ ¬ x = -5) → tb_wp E d 134 60 [.ref m, .int (nI 1), .int (nI n), .int (nI 1), .int x, y] [.int (nI 0), .ref m] h3' nx 0 0 Q := by
      intro y hx
      rw [if_neg hx] at hQ
      simp (disch := first | assumption | omega | exact tb_sm0 | exact tb_sm1 _ | exact tb_sm2 _ _ | exact tb_sm3 _ _ _ | exact tb_sm4 _ _ _ _ | exact Or.inl rfl | exact Or.inr rfl | fail) only [r134_0, r134_1, r134_2, r134_5, r134_6, r134_7, r134_10, r134_11, r134_12, r134_15, r134_16, r134_17, r134_18, r134_20, r134_23, r134_24, r134_27, r134_28, r134_31, r134_32, r134_35, r134_38, r134_39, r134_41, r134_42, r134_44, r134_47, r134_49, r134_51, r134_54, r134_56, r134_59, r134_60, r134_63, r134_64, r134_65, r134_68, r134_71, r134_72, r134_75, r134_76, r134_77, r134_78, r134_79, r134_82, r134_85, r134_86, r134_89, r134_92, r134_93, r134_96, r134_97, r134_100, r134_103, r134_104, r134_107, r134_108, r134_109, r134_110, r134_113, r134_114, r134_116, r134_118, r134_121, r134_123, r134_124, r134_127, r134_130, r134_131, r134_134, r134_135, r134_136, r134_139, r134_140]
      refine tb_pf_ok hM3.1 (by simp) (fun h4 h41 h42 => ?_)
      have hM4 : tb_MP h4 m s3 kn g (true, p2) (nI 0) as ah cm3 od2 bf := tb_MG.upSP hM3 h41 h42
      have g4 := hM4.1.g
      have hO4 := hM4.1.O
      have fr4 : tb_out h h4 m (m + 9) := fun q hq => by rw [h42 q (by omega), fr q hq]
      by_cases c1 : p2 < g.2.2.2.1
      · rw [if_pos c1] at hQ h3
        have hpl : ¬ g.2.2.2.1 ≤ p2 := by omega
        have c2 : (ps_t g.2.2.1 g.2.2.2.1 59 59 (true, p2)).1 = true := by
          by_cases c2 : (ps_t g.2.2.1 g.2.2.2.1 59 59 (true, p2)).1 = true
          · exact c2
          · rw [if_neg c2] at h3; cases h3
        rw [if_pos c2] at h3
        simp (disch := first | assumption | omega | exact tb_sm0 | exact tb_sm1 _ | exact tb_sm2 _ _ | exact tb_sm3 _ _ _ | exact tb_sm4 _ _ _ _ | exact Or.inl rfl | exact Or.inr rfl | fail) only [r134_0, r134_1, r134_2, r134_5, r134_6, r134_7, r134_10, r134_11, r134_12, r134_15, r134_16, r134_17, r134_18, r134_20, r134_23, r134_24, r134_27, r134_28, r134_31, r134_32, r134_35, r134_38, r134_39, r134_41, r134_42, r134_44, r134_47, r134_49, r134_51, r134_54, r134_56, r134_59, r134_60, r134_63, r134_64, r134_65, r134_68, r134_71, r134_72, r134_75, r134_76, r134_77, r134_78, r134_79, r134_82, r134_85, r134_86, r134_89, r134_92, r134_93, r134_96, r134_97, r134_100, r134_103, r134_104, r134_107, r134_108, r134_109, r134_110, r134_113, r134_114, r134_116, r134_118, r134_121, r134_123, r134_124, r134_127, r134_130, r134_131, r134_134, r134_135, r134_136, r134_139, r134_140, g4, e0, hpl, tb_vl_some, tb_vl_none, tb_wF_some, nI_add, pk_mul, e_sub, e_div, tb_nmod, e_dec, e_le, e_lt, e_eq, e_eq0, e_lt0, e_0le, e_0lt, e_le0, if_true, if_false, not_true_eq_false, not_false_eq_true, ite_true, ite_false, Nat.reduceAdd, Nat.reduceMul, Nat.reduceLeDiff, Nat.reduceLT, Nat.reduceEqDiff, Nat.reduceSub, ↓reduceIte, Nat.reduceDiv, Nat.reduceMod]
        refine m_takes hM4 hT h60 (by dsimp only; omega) (by decide) (by decide) (by decide) (by omega) (fun h5 v5 hM5 hF5 _ => ?_)
        have g5 := hM5.1.g
        have e4 : ps_t g.2.2.1 g.2.2.2.1 59 59 (true, p2) = (true, p2 + 1) := Prod.ext c2 (ps_t_ok c2).2.2.2.2
        rw [e4] at hM5 g5
        have e5 : ps_w (true, p2 + 1).1 = 0 := rfl
        simp (disch := first | assumption | omega | exact tb_sm0 | exact tb_sm1 _ | exact tb_sm2 _ _ | exact tb_sm3 _ _ _ | exact tb_sm4 _ _ _ _ | exact Or.inl rfl | exact Or.inr rfl | fail) only [r134_0, r134_1, r134_2, r134_5, r134_6, r134_7, r134_10, r134_11, r134_12, r134_15, r134_16, r134_17, r134_18, r134_20, r134_23, r134_24, r134_27, r134_28, r134_31, r134_32, r134_35, r134_38, r134_39, r134_41, r134_42, r134_44, r134_47, r134_49, r134_51, r134_54, r134_56, r134_59, r134_60, r134_63, r134_64, r134_65, r134_68, r134_71, r134_72, r134_75, r134_76, r134_77, r134_78, r134_79, r134_82, r134_85, r134_86, r134_89, r134_92, r134_93, r134_96, r134_97, r134_100, r134_103, r134_104, r134_107, r134_108, r134_109, r134_110, r134_113, r134_114, r134_116, r134_118, r134_121, r134_123, r134_124, r134_127, r134_130, r134_131, r134_134, r134_135, r134_136, r134_139, r134_140, g5, e5, tb_vl_some, tb_vl_none, tb_wF_some, nI_add, pk_mul, e_sub, e_div, tb_nmod, e_dec, e_le, e_lt, e_eq, e_eq0, e_lt0, e_0le, e_0lt, e_le0, if_true, if_false, not_true_eq_false, not_false_eq_true, ite_true, ite_false, Nat.reduceAdd, Nat.reduceMul, Nat.reduceLeDiff, Nat.reduceLT, Nat.reduceEqDiff, Nat.reduceSub, ↓reduceIte, Nat.reduceDiv, Nat.reduceMod]
        exact ih (p2 + 1) (n + 1) _ h5 s3 _ cm3 od2 _ _ (by omega) (by omega) h3 hW3 hM5 (fun h6 r6 od6 cm6 h61 h62 => hQ h6 r6 od6 cm6 h61 (fun q hq => by rw [h62 q hq, hF5 q (by omega), fr4 q hq]))
      · rw [if_neg c1] at hQ
        have hpl : g.2.2.2.1 ≤ p2 := by omega
        simp (disch := first | assumption | omega | exact tb_sm0 | exact tb_sm1 _ | exact tb_sm2 _ _ | exact tb_sm3 _ _ _ | exact tb_sm4 _ _ _ _ | exact Or.inl rfl | exact Or.inr rfl | fail) only [r134_0, r134_1, r134_2, r134_5, r134_6, r134_7, r134_10, r134_11, r134_12, r134_15, r134_16, r134_17, r134_18, r134_20, r134_23, r134_24, r134_27, r134_28, r134_31, r134_32, r134_35, r134_38, r134_39, r134_41, r134_42, r134_44, r134_47, r134_49, r134_51, r134_54, r134_56, r134_59, r134_60, r134_63, r134_64, r134_65, r134_68, r134_71, r134_72, r134_75, r134_76, r134_77, r134_78, r134_79, r134_82, r134_85, r134_86, r134_89, r134_92, r134_93, r134_96, r134_97, r134_100, r134_103, r134_104, r134_107, r134_108, r134_109, r134_110, r134_113, r134_114, r134_116, r134_118, r134_121, r134_123, r134_124, r134_127, r134_130, r134_131, r134_134, r134_135, r134_136, r134_139, r134_140, g4, e0, hpl, tb_vl_some, tb_vl_none, tb_wF_some, nI_add, pk_mul, e_sub, e_div, tb_nmod, e_dec, e_le, e_lt, e_eq, e_eq0, e_lt0, e_0le, e_0lt, e_le0, if_true, if_false, not_true_eq_false, not_false_eq_true, ite_true, ite_false, Nat.reduceAdd, Nat.reduceMul, Nat.reduceLeDiff, Nat.reduceLT, Nat.reduceEqDiff, Nat.reduceSub, ↓reduceIte, Nat.reduceDiv, Nat.reduceMod]
        exact hend _ _ _ _ (hQ h4 _ od2 cm3 hM4 fr4)
    by_cases c1 : x < 0
    · have c1' : ¬ 0 ≤ x := Int32.not_le.mpr c1
      by_cases c2 : x = -5
      · have := go z (fun q => q.2 c2)
        simp (disch := first | assumption | omega | exact tb_sm0 | exact tb_sm1 _ | exact tb_sm2 _ _ | exact tb_sm3 _ _ _ | exact tb_sm4 _ _ _ _ | exact Or.inl rfl | exact Or.inr rfl | fail) only [r134_0, r134_1, r134_2, r134_5, r134_6, r134_7, r134_10, r134_11, r134_12, r134_15, r134_16, r134_17, r134_18, r134_20, r134_23, r134_24, r134_27, r134_28, r134_31, r134_32, r134_35, r134_38, r134_39, r134_41, r134_42, r134_44, r134_47, r134_49, r134_51, r134_54, r134_56, r134_59, r134_63, r134_64, r134_65, r134_68, r134_71, r134_72, r134_75, r134_76, r134_77, r134_78, r134_79, r134_82, r134_85, r134_86, r134_89, r134_92, r134_93, r134_96, r134_97, r134_100, r134_103, r134_104, r134_107, r134_108, r134_109, r134_110, r134_113, r134_114, r134_116, r134_118, r134_121, r134_123, r134_124, r134_127, r134_130, r134_131, r134_134, r134_135, r134_136, r134_139, r134_140, c1', eq_true c2, tb_vl_some, tb_vl_none, tb_wF_some, nI_add, pk_mul, e_sub, e_div, tb_nmod, e_dec, e_le, e_lt, e_eq, e_eq0, e_lt0, e_0le, e_0lt, e_le0, if_true, if_false, not_true_eq_false, not_false_eq_true, ite_true, ite_false, Nat.reduceAdd, Nat.reduceMul, Nat.reduceLeDiff, Nat.reduceLT, Nat.reduceEqDiff, Nat.reduceSub, ↓reduceIte, Nat.reduceDiv, Nat.reduceMod]
        rw [c2] at this
        first | exact this | (simp only [c2]; exact this)
      · rw [if_pos ⟨c1, c2⟩] at hQ
        have c3 : ¬ x = 0 := fun q => by rw [q] at c1; exact absurd c1 (by decide)
        simp (disch := first | assumption | omega | exact tb_sm0 | exact tb_sm1 _ | exact tb_sm2 _ _ | exact tb_sm3 _ _ _ | exact tb_sm4 _ _ _ _ | exact Or.inl rfl | exact Or.inr rfl | fail) only [r134_0, r134_1, r134_2, r134_5, r134_6, r134_7, r134_10, r134_11, r134_12, r134_15, r134_16, r134_17, r134_18, r134_20, r134_23, r134_24, r134_27, r134_28, r134_31, r134_32, r134_35, r134_38, r134_39, r134_41, r134_42, r134_44, r134_47, r134_49, r134_51, r134_54, r134_56, r134_59, r134_60, r134_63, r134_64, r134_65, r134_68, r134_71, r134_72, r134_75, r134_76, r134_77, r134_78, r134_79, r134_82, r134_85, r134_86, r134_89, r134_92, r134_93, r134_96, r134_97, r134_100, r134_103, r134_104, r134_107, r134_108, r134_109, r134_110, r134_113, r134_114, r134_116, r134_118, r134_121, r134_123, r134_124, r134_127, r134_130, r134_131, r134_134, r134_135, r134_136, r134_139, r134_140, c1', c2, tb_vl_some, tb_vl_none, tb_wF_some, nI_add, pk_mul, e_sub, e_div, tb_nmod, e_dec, e_le, e_lt, e_eq, e_eq0, e_lt0, e_0le, e_0lt, e_le0, if_true, if_false, not_true_eq_false, not_false_eq_true, ite_true, ite_false, Nat.reduceAdd, Nat.reduceMul, Nat.reduceLeDiff, Nat.reduceLT, Nat.reduceEqDiff, Nat.reduceSub, ↓reduceIte, Nat.reduceDiv, Nat.reduceMod]
        refine tb_pf_ok hM3.1 (by simp) (fun h4 h41 h42 => ?_)
        have hM4 : tb_MP h4 m s3 kn g (true, p2) x as ah cm3 od2 bf := tb_MG.upSP hM3 h41 h42
        have g4 := hM4.1.g
        simp (disch := first | assumption | omega | exact tb_sm0 | exact tb_sm1 _ | exact tb_sm2 _ _ | exact tb_sm3 _ _ _ | exact tb_sm4 _ _ _ _ | exact Or.inl rfl | exact Or.inr rfl | fail) only [r134_0, r134_1, r134_2, r134_5, r134_6, r134_7, r134_10, r134_11, r134_12, r134_15, r134_16, r134_17, r134_18, r134_20, r134_23, r134_24, r134_27, r134_28, r134_31, r134_32, r134_35, r134_38, r134_39, r134_41, r134_42, r134_44, r134_47, r134_49, r134_51, r134_54, r134_56, r134_59, r134_60, r134_63, r134_64, r134_65, r134_68, r134_71, r134_72, r134_75, r134_76, r134_77, r134_78, r134_79, r134_82, r134_85, r134_86, r134_89, r134_92, r134_93, r134_96, r134_97, r134_100, r134_103, r134_104, r134_107, r134_108, r134_109, r134_110, r134_113, r134_114, r134_116, r134_118, r134_121, r134_123, r134_124, r134_127, r134_130, r134_131, r134_134, r134_135, r134_136, r134_139, r134_140, g4, c1', c3, tb_vl_some, tb_vl_none, tb_wF_some, nI_add, pk_mul, e_sub, e_div, tb_nmod, e_dec, e_le, e_lt, e_eq, e_eq0, e_lt0, e_0le, e_0lt, e_le0, if_true, if_false, not_true_eq_false, not_false_eq_true, ite_true, ite_false, Nat.reduceAdd, Nat.reduceMul, Nat.reduceLeDiff, Nat.reduceLT, Nat.reduceEqDiff, Nat.reduceSub, ↓reduceIte, Nat.reduceDiv, Nat.reduceMod, Nat.add_zero]
        exact hend _ _ _ _ (hQ h4 _ od2 cm3 hM4 (fun q hq => by rw [h42 q (by omega), fr q hq]))
    · have c1' : 0 ≤ x := Int32.not_lt.mp c1
      have := go z (fun q => c1 q.1)
      simp (disch := first | assumption | omega | exact tb_sm0 | exact tb_sm1 _ | exact tb_sm2 _ _ | exact tb_sm3 _ _ _ | exact tb_sm4 _ _ _ _ | exact Or.inl rfl | exact Or.inr rfl | fail) only [r134_0, r134_1, r134_2, r134_5, r134_6, r134_7, r134_10, r134_11, r134_12, r134_15, r134_16, r134_17, r134_18, r134_20, r134_23, r134_24, r134_27, r134_28, r134_31, r134_32, r134_35, r134_38, r134_39, r134_41, r134_42, r134_44, r134_47, r134_49, r134_51, r134_54, r134_56, r134_59, r134_63, r134_64, r134_65, r134_68, r134_71, r134_72, r134_75, r134_76, r134_77, r134_78, r134_79, r134_82, r134_85, r134_86, r134_89, r134_92, r134_93, r134_96, r134_97, r134_100, r134_103, r134_104, r134_107, r134_108, r134_109, r134_110, r134_113, r134_114, r134_116, r134_118, r134_121, r134_123, r134_124, r134_127, r134_130, r134_131, r134_134, r134_135, r134_136, r134_139, r134_140, c1', tb_vl_some, tb_vl_none, tb_wF_some, nI_add, pk_mul, e_sub, e_div, tb_nmod, e_dec, e_le, e_lt, e_eq, e_eq0, e_lt0, e_0le, e_0lt, e_le0, if_true, if_false, not_true_eq_false, not_false_eq_true, ite_true, ite_false, Nat.reduceAdd, Nat.reduceMul, Nat.reduceLeDiff, Nat.reduceLT, Nat.reduceEqDiff, Nat.reduceSub, ↓reduceIte, Nat.reduceDiv, Nat.reduceMod]
      exact this
end M13
