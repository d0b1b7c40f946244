/-! THE REFERENCE: sliding, a tick -/
theorem sp_on_out {s : Nat → Nat} {b c i x : Nat} (hi : i < 48 + 32 * b + 4 * c ∨ 48 + 32 * b + 4 * c + 4 ≤ i) : sp_on (va_up s i x) b c = sp_on s b c := by
  unfold sp_on
  rw [va_up_n (by omega), va_up_n (by omega), va_up_n (by omega), va_up_n (by omega)]
theorem sp_on_in {s : Nat → Nat} {b c k x : Nat} (hk : k < 4) : sp_on (va_up s (48 + 32 * b + 4 * c + k) x) b c + s (48 + 32 * b + 4 * c + k) = sp_on s b c + x := by
  unfold sp_on va_up
  rcases (by omega : k = 0 ∨ k = 1 ∨ k = 2 ∨ k = 3) with rfl | rfl | rfl | rfl <;> simp <;> omega
theorem sp_on_c {s s' : Nat → Nat} {b c : Nat} (h : ∀ k, k < 4 → s' (48 + 32 * b + 4 * c + k) = s (48 + 32 * b + 4 * c + k)) : sp_on s' b c = sp_on s b c := by
  unfold sp_on
  rw [h 0 (by decide), h 1 (by decide), h 2 (by decide), h 3 (by decide)]
theorem sp_g_le (s : Nat → Nat) (b c k : Nat) : sp_g s b c k ≤ s (48 + 32 * b + 4 * c + k) ∧ sp_g s b c k ≤ sp_room s b c := by
  unfold sp_g
  split <;> omega
/-- what a slide leaves as it was -/
theorem sp_sl_n {s : Nat → Nat} {b c k j : Nat} (h1 : j ≠ 48 + 32 * b + 4 * c + k) (h2 : j ≠ 23 + b) (h3 : c = 7 → j ≠ 28 + 4 * b + k ∧ j ≠ 18 + b) (h4 : c ≠ 7 → j ≠ 48 + 32 * b + 4 * (c + 1) + k) : sp_sl s b c k j = s j := by
  unfold sp_sl
  dsimp only
  split
  · rename_i h
    rw [va_up_n (h3 h).2, va_up_n (h3 h).1, va_up_n h2, va_up_n h1]
  · rename_i h
    rw [va_up_n (h4 h), va_up_n h2, va_up_n h1]
theorem sp_sl_on {s : Nat → Nat} {b c k b' c' : Nat} (hb : b < 5) (hc : c < 8) (hk : k < 4) (hb' : b' < 5) (hc' : c' < 8) : (b' = b ∧ c' = c → sp_on (sp_sl s b c k) b' c' + sp_g s b c k = sp_on s b' c') ∧ (b' = b ∧ c' = c + 1 → sp_on (sp_sl s b c k) b' c' = sp_on s b' c' + (sp_g s b c k - sp_g s b c k / s 3)) ∧ (¬ (b' = b ∧ (c' = c ∨ c' = c + 1)) → sp_on (sp_sl s b c k) b' c' = sp_on s b' c') := by
  have hg := (sp_g_le s b c k).1
  refine ⟨?_, ?_, ?_⟩
  · rintro ⟨rfl, rfl⟩
    unfold sp_sl
    dsimp only
    have e := sp_on_in (s := s) (b := b') (c := c') (x := s (48 + 32 * b' + 4 * c' + k) - sp_g s b' c' k) hk
    split
    · rw [sp_on_out (by omega), sp_on_out (by omega), sp_on_out (by omega)]
      omega
    · rw [sp_on_out (by omega), sp_on_out (by omega)]
      omega
  · rintro ⟨rfl, rfl⟩
    unfold sp_sl
    dsimp only
    rw [if_neg (by omega)]
    generalize hs2 : va_up (va_up s (48 + 32 * b' + 4 * c + k) (s (48 + 32 * b' + 4 * c + k) - sp_g s b' c k)) (23 + b') _ = s2
    have e := sp_on_in (s := s2) (b := b') (c := c + 1) (x := s2 (48 + 32 * b' + 4 * (c + 1) + k) + (sp_g s b' c k - sp_g s b' c k / s 3)) hk
    have e2 : sp_on s2 b' (c + 1) = sp_on s b' (c + 1) := by
      rw [← hs2, sp_on_out (by omega), sp_on_out (by omega)]
    omega
  · intro hn
    refine sp_on_c (fun j hj => sp_sl_n (by omega) (by omega) (fun h => by omega) (fun h => by omega))
theorem sp_I_sl {s : Nat → Nat} (hI : sp_I s) {b c k : Nat} (hb : b < 5) (hc : c < 8) (hk : k < 4) : sp_I (sp_sl s b c k) := by
  have low : ∀ j, j < 18 → sp_sl s b c k j = s j := fun j hj => sp_sl_n (by omega) (by omega) (fun h => by omega) (fun h => by omega)
  have hg := sp_g_le s b c k
  obtain ⟨i1, i2, i3, i4, i5⟩ := hI
  refine ⟨fun b' c' hb' hc' => ?_, ?_, fun j hj => ?_, fun j hj => ?_, fun j hj => ?_⟩
  · obtain ⟨e1, e2, e3⟩ := sp_sl_on (s := s) hb hc hk hb' hc'
    have q := i1 b' c' hb' hc'
    by_cases h1 : b' = b ∧ c' = c
    · have := e1 h1; omega
    · by_cases h2 : b' = b ∧ c' = c + 1
      · have e := e2 h2
        have hr : sp_room s b c = 99 - sp_on s b (c + 1) := by unfold sp_room; rw [if_neg (by omega)]
        obtain ⟨rfl, rfl⟩ := h2
        have hu := Nat.sub_le (sp_g s b' c k) (sp_g s b' c k / s 3)
        generalize sp_g s b' c k - sp_g s b' c k / s 3 = w at e hu
        omega
      · rw [e3 (by omega)]; exact q
  · rw [low 1 (by decide), low 2 (by decide), low 3 (by decide)]; exact i2
  · rw [low _ (by omega)]; exact i3 j hj
  · rw [low _ (by omega)]; exact i4 j hj
  · rw [sp_sl_n (by omega) (by omega) (fun h => by omega) (fun h => by omega)]; exact i5 j hj
def sp_slot (q : (Nat → Nat) × (Nat → Nat)) (b c t : Nat) : (Nat → Nat) × (Nat → Nat) := if sp_why q.1 b c (sp_kd q.1 t) = 0 then (sp_sl q.1 b c (sp_kd q.1 t), sp_cm q.1 q.2 b c (sp_kd q.1 t)) else q
def sp_cell (q : (Nat → Nat) × (Nat → Nat)) (b c : Nat) : (Nat → Nat) × (Nat → Nat) := sp_slot (sp_slot (sp_slot (sp_slot q b c 0) b c 1) b c 2) b c 3
def sp_down (b : Nat) : Nat → (Nat → Nat) × (Nat → Nat) → (Nat → Nat) × (Nat → Nat)
  | 0, q => q
  | n + 1, q => sp_down b n (sp_cell q b n)
def sp_mv (s : Nat → Nat) (b : Nat) (cm : Nat → Nat) : Nat → Nat := fun j => if 208 + 32 * b ≤ j ∧ j < 240 + 32 * b then cm (j - (208 + 32 * b)) else s j
def sp_tick (s : Nat → Nat) (b : Nat) : Nat → Nat := sp_mv (sp_down b 8 (s, fun _ => 0)).1 b (sp_down b 8 (s, fun _ => 0)).2
theorem sp_slot_I {q : (Nat → Nat) × (Nat → Nat)} (hI : sp_I q.1) {b c t : Nat} (hb : b < 5) (hc : c < 8) (ht : t < 4) : sp_I (sp_slot q b c t).1 := by
  unfold sp_slot
  split
  · exact sp_I_sl hI hb hc (sp_kd_ok q.1 ht).1
  · exact hI
theorem sp_slot_m {q : (Nat → Nat) × (Nat → Nat)} (hm : ∀ j, q.2 j ≤ 1) {b c t : Nat} : ∀ j, (sp_slot q b c t).2 j ≤ 1 := by
  intro j
  unfold sp_slot
  split
  · show sp_cm _ _ _ _ _ j ≤ 1
    unfold sp_cm
    split
    · exact hm j
    · unfold va_up
      split
      · split <;> decide
      · exact hm j
  · exact hm j
theorem sp_cell_I {q : (Nat → Nat) × (Nat → Nat)} (hI : sp_I q.1) {b c : Nat} (hb : b < 5) (hc : c < 8) : sp_I (sp_cell q b c).1 :=
  sp_slot_I (sp_slot_I (sp_slot_I (sp_slot_I hI hb hc (by decide)) hb hc (by decide)) hb hc (by decide)) hb hc (by decide)
theorem sp_cell_m {q : (Nat → Nat) × (Nat → Nat)} (hm : ∀ j, q.2 j ≤ 1) {b c : Nat} : ∀ j, (sp_cell q b c).2 j ≤ 1 := sp_slot_m (sp_slot_m (sp_slot_m (sp_slot_m hm)))
theorem sp_down_I {b : Nat} (hb : b < 5) (n : Nat) : ∀ q : (Nat → Nat) × (Nat → Nat), n ≤ 8 → sp_I q.1 → (∀ j, q.2 j ≤ 1) → sp_I (sp_down b n q).1 ∧ ∀ j, (sp_down b n q).2 j ≤ 1 := by
  induction n with
  | zero => intro q _ h1 h2; exact ⟨h1, h2⟩
  | succ n ih => intro q hn h1 h2; exact ih _ (by omega) (sp_cell_I h1 hb (by omega)) (sp_cell_m h2)
theorem sp_I_mv {s : Nat → Nat} (hI : sp_I s) {b : Nat} {cm : Nat → Nat} (hb : b < 5) (hm : ∀ j, cm j ≤ 1) : sp_I (sp_mv s b cm) := by
  have low : ∀ j, j < 208 → sp_mv s b cm j = s j := fun j hj => by unfold sp_mv; rw [if_neg (by omega)]
  obtain ⟨i1, i2, i3, i4, i5⟩ := hI
  refine ⟨fun b' c' hb' hc' => ?_, ?_, fun j hj => ?_, fun j hj => ?_, fun j hj => ?_⟩
  · rw [sp_on_c (s := s) (fun k hk => low _ (by omega))]; exact i1 b' c' hb' hc'
  · rw [low 1 (by decide), low 2 (by decide), low 3 (by decide)]; exact i2
  · rw [low _ (by omega)]; exact i3 j hj
  · rw [low _ (by omega)]; exact i4 j hj
  · unfold sp_mv
    split
    · exact hm _
    · exact i5 j hj
theorem sp_I_tick {s : Nat → Nat} (hI : sp_I s) {b : Nat} (hb : b < 5) : sp_I (sp_tick s b) := by
  obtain ⟨h1, h2⟩ := sp_down_I hb 8 (s, fun _ => 0) (Nat.le_refl 8) hI (fun j => Nat.zero_le 1)
  exact sp_I_mv h1 hb h2
section M3
variable {E : tb_env} {d : Nat} {h : tb_heap} {nx : Nat} {Q : Option Value → tb_heap → Nat → Prop}
theorem m_slides {m b c k : Nat} {s cm : Nat → Nat} (hM : tb_MC h m s cm) (hI : sp_I s) (hb : b < 5) (hc : c < 8) (hk : k < 4) (hd : 3 ≤ d) (hQ : ∀ h', tb_MC h' m (sp_sl s b c k) (sp_cm s cm b c k) → (∀ q, q ≠ m + 1 → q ≠ m + 7 → h' q = h q) → Q none h' nx) :
    tb_wp E d 107 0 [.ref m, .int (nI b), .int (nI c), .int (nI k), .long 0, .long 0, .long 0] [] h nx 0 0 Q := by
  have h0 := hM.1
  have h1 := h0.g
  have hO := h0.O
  have j1 := sp_heap_le hI hb hc hk
  have j3 := sp_room_le s b c
  have jg := sp_g_le s b c k
  have hz : ¬ nI (s 3) = 0 := by have := hI.2.1; rw [e_eq0 (by omega)]; omega
  have i2 := hI.2.1
  have hu : sp_g s b c k / s 3 ≤ sp_g s b c k := Nat.div_le_self _ _
  have key : tb_wp E d 107 37 [.ref m, .int (nI b), .int (nI c), .int (nI k), .int (nI (sp_room s b c)), .int (nI (sp_g s b c k)), .long 0] [] h nx 0 0 Q := by
    simp (disch := first | assumption | omega | exact tb_sm0 | exact tb_sm1 _ | exact tb_sm2 _ _ | exact tb_sm3 _ _ _ | exact tb_sm4 _ _ _ _ | exact Or.inl rfl | exact Or.inr rfl | fail) only [r107_0, r107_1, r107_2, r107_3, r107_6, r107_8, r107_9, r107_12, r107_13, r107_14, r107_15, r107_18, r107_19, r107_21, r107_23, r107_25, r107_28, r107_30, r107_33, r107_35, r107_37, r107_39, r107_40, r107_43, r107_44, r107_45, r107_46, r107_48, r107_49, r107_52, r107_53, r107_54, r107_55, r107_58, r107_59, r107_60, r107_62, r107_63, r107_64, r107_65, r107_68, r107_70, r107_71, r107_72, r107_73, r107_74, r107_76, r107_77, r107_78, r107_79, r107_81, r107_84, r107_85, r107_88, r107_90, r107_91, r107_92, r107_93, r107_94, r107_95, r107_96, r107_97, r107_98, r107_100, r107_102, r107_103, r107_104, r107_105, r107_106, r107_109, r107_111, r107_112, r107_113, r107_114, r107_115, r107_117, r107_119, r107_120, r107_121, r107_122, r107_125, r107_126, r107_129, r107_130, r107_131, r107_132, r107_133, r107_134, r107_137, r107_138, r107_139, r107_141, r107_143, r107_144, r107_145, r107_146, r107_147, r107_150, r107_151, r107_152, r107_153, r107_154, r107_155, r107_156, r107_157, r107_159, r107_161, r107_164, r107_165, r107_168, r107_169, r107_170, m_heap, h1, h0.ld, tb_vl_some, tb_vl_none, tb_wF_some, nI_add, pk_mul, e_sub, e_div, tb_nmod, e_dec, e_le, e_lt, e_eq, e_eq0, e_lt0, e_0le, e_0lt, e_le0, if_true, if_false, not_true_eq_false, not_false_eq_true, ite_true, ite_false, Nat.reduceAdd, Nat.reduceMul, Nat.reduceLeDiff, Nat.reduceLT, Nat.reduceEqDiff, Nat.reduceSub, ↓reduceIte, Nat.reduceDiv, Nat.reduceMod]
    refine h0.st (by omega) (fun h2 hM2 hF2 => ?_)
    have g2 := hM2.g
    have O2 := hM2.O
    have A2 : tb_isA h2 (m + 7) 0 32 (fun j => nI (cm j)) := hM.2.to (hF2 _ (by omega)) (fun _ _ => rfl)
    try simp (disch := first | assumption | omega | exact tb_sm0 | exact tb_sm1 _ | exact tb_sm2 _ _ | exact tb_sm3 _ _ _ | exact tb_sm4 _ _ _ _ | exact Or.inl rfl | exact Or.inr rfl | fail) only [r107_0, r107_1, r107_2, r107_3, r107_6, r107_8, r107_9, r107_12, r107_13, r107_14, r107_15, r107_18, r107_19, r107_21, r107_23, r107_25, r107_28, r107_30, r107_33, r107_35, r107_37, r107_39, r107_40, r107_43, r107_44, r107_45, r107_46, r107_48, r107_49, r107_52, r107_53, r107_54, r107_55, r107_58, r107_59, r107_60, r107_62, r107_63, r107_64, r107_65, r107_68, r107_70, r107_71, r107_72, r107_73, r107_74, r107_76, r107_77, r107_78, r107_79, r107_81, r107_84, r107_85, r107_88, r107_90, r107_91, r107_92, r107_93, r107_94, r107_95, r107_96, r107_97, r107_98, r107_100, r107_102, r107_103, r107_104, r107_105, r107_106, r107_109, r107_111, r107_112, r107_113, r107_114, r107_115, r107_117, r107_119, r107_120, r107_121, r107_122, r107_125, r107_126, r107_129, r107_130, r107_131, r107_132, r107_133, r107_134, r107_137, r107_138, r107_139, r107_141, r107_143, r107_144, r107_145, r107_146, r107_147, r107_150, r107_151, r107_152, r107_153, r107_154, r107_155, r107_156, r107_157, r107_159, r107_161, r107_164, r107_165, r107_168, r107_169, r107_170, m_heap, g2, hM2.ld, tb_vl_some, tb_vl_none, tb_wF_some, nI_add, pk_mul, e_sub, e_div, tb_nmod, e_dec, e_le, e_lt, e_eq, e_eq0, e_lt0, e_0le, e_0lt, e_le0, if_true, if_false, not_true_eq_false, not_false_eq_true, ite_true, ite_false, Nat.reduceAdd, Nat.reduceMul, Nat.reduceLeDiff, Nat.reduceLT, Nat.reduceEqDiff, Nat.reduceSub, ↓reduceIte, Nat.reduceDiv, Nat.reduceMod]
    refine hM2.st (by omega) (fun h3 hM3 hF3 => ?_)
    have g3 := hM3.g
    have A3 : tb_isA h3 (m + 7) 0 32 (fun j => nI (cm j)) := A2.to (hF3 _ (by omega)) (fun _ _ => rfl)
    by_cases h7 : c = 7
    · simp (disch := first | assumption | omega | exact tb_sm0 | exact tb_sm1 _ | exact tb_sm2 _ _ | exact tb_sm3 _ _ _ | exact tb_sm4 _ _ _ _ | exact Or.inl rfl | exact Or.inr rfl | fail) only [r107_0, r107_1, r107_2, r107_3, r107_6, r107_8, r107_9, r107_12, r107_13, r107_14, r107_15, r107_18, r107_19, r107_21, r107_23, r107_25, r107_28, r107_30, r107_33, r107_35, r107_37, r107_39, r107_40, r107_43, r107_44, r107_45, r107_46, r107_48, r107_49, r107_52, r107_53, r107_54, r107_55, r107_58, r107_59, r107_60, r107_62, r107_63, r107_64, r107_65, r107_68, r107_70, r107_71, r107_72, r107_73, r107_74, r107_76, r107_77, r107_78, r107_79, r107_81, r107_84, r107_85, r107_88, r107_90, r107_91, r107_92, r107_93, r107_94, r107_95, r107_96, r107_97, r107_98, r107_100, r107_102, r107_103, r107_104, r107_105, r107_106, r107_109, r107_111, r107_112, r107_113, r107_114, r107_115, r107_117, r107_119, r107_120, r107_121, r107_122, r107_125, r107_126, r107_129, r107_130, r107_131, r107_132, r107_133, r107_134, r107_137, r107_138, r107_139, r107_141, r107_143, r107_144, r107_145, r107_146, r107_147, r107_150, r107_151, r107_152, r107_153, r107_154, r107_155, r107_156, r107_157, r107_159, r107_161, r107_164, r107_165, r107_168, r107_169, r107_170, eq_true h7, m_heap, g3, hM3.ld, tb_vl_some, tb_vl_none, tb_wF_some, nI_add, pk_mul, e_sub, e_div, tb_nmod, e_dec, e_le, e_lt, e_eq, e_eq0, e_lt0, e_0le, e_0lt, e_le0, if_true, if_false, not_true_eq_false, not_false_eq_true, ite_true, ite_false, Nat.reduceAdd, Nat.reduceMul, Nat.reduceLeDiff, Nat.reduceLT, Nat.reduceEqDiff, Nat.reduceSub, ↓reduceIte, Nat.reduceDiv, Nat.reduceMod]
      refine hM3.st (by omega) (fun h4 hM4 hF4 => ?_)
      have g4 := hM4.g
      have A4 : tb_isA h4 (m + 7) 0 32 (fun j => nI (cm j)) := A3.to (hF4 _ (by omega)) (fun _ _ => rfl)
      try simp (disch := first | assumption | omega | exact tb_sm0 | exact tb_sm1 _ | exact tb_sm2 _ _ | exact tb_sm3 _ _ _ | exact tb_sm4 _ _ _ _ | exact Or.inl rfl | exact Or.inr rfl | fail) only [r107_0, r107_1, r107_2, r107_3, r107_6, r107_8, r107_9, r107_12, r107_13, r107_14, r107_15, r107_18, r107_19, r107_21, r107_23, r107_25, r107_28, r107_30, r107_33, r107_35, r107_37, r107_39, r107_40, r107_43, r107_44, r107_45, r107_46, r107_48, r107_49, r107_52, r107_53, r107_54, r107_55, r107_58, r107_59, r107_60, r107_62, r107_63, r107_64, r107_65, r107_68, r107_70, r107_71, r107_72, r107_73, r107_74, r107_76, r107_77, r107_78, r107_79, r107_81, r107_84, r107_85, r107_88, r107_90, r107_91, r107_92, r107_93, r107_94, r107_95, r107_96, r107_97, r107_98, r107_100, r107_102, r107_103, r107_104, r107_105, r107_106, r107_109, r107_111, r107_112, r107_113, r107_114, r107_115, r107_117, r107_119, r107_120, r107_121, r107_122, r107_125, r107_126, r107_129, r107_130, r107_131, r107_132, r107_133, r107_134, r107_137, r107_138, r107_139, r107_141, r107_143, r107_144, r107_145, r107_146, r107_147, r107_150, r107_151, r107_152, r107_153, r107_154, r107_155, r107_156, r107_157, r107_159, r107_161, r107_164, r107_165, r107_168, r107_169, r107_170, m_heap, g4, hM4.ld, tb_vl_some, tb_vl_none, tb_wF_some, nI_add, pk_mul, e_sub, e_div, tb_nmod, e_dec, e_le, e_lt, e_eq, e_eq0, e_lt0, e_0le, e_0lt, e_le0, if_true, if_false, not_true_eq_false, not_false_eq_true, ite_true, ite_false, Nat.reduceAdd, Nat.reduceMul, Nat.reduceLeDiff, Nat.reduceLT, Nat.reduceEqDiff, Nat.reduceSub, ↓reduceIte, Nat.reduceDiv, Nat.reduceMod]
      refine hM4.st (by omega) (fun h5 hM5 hF5 => ?_)
      try simp (disch := first | assumption | omega | exact tb_sm0 | exact tb_sm1 _ | exact tb_sm2 _ _ | exact tb_sm3 _ _ _ | exact tb_sm4 _ _ _ _ | exact Or.inl rfl | exact Or.inr rfl | fail) only [r107_0, r107_1, r107_2, r107_3, r107_6, r107_8, r107_9, r107_12, r107_13, r107_14, r107_15, r107_18, r107_19, r107_21, r107_23, r107_25, r107_28, r107_30, r107_33, r107_35, r107_37, r107_39, r107_40, r107_43, r107_44, r107_45, r107_46, r107_48, r107_49, r107_52, r107_53, r107_54, r107_55, r107_58, r107_59, r107_60, r107_62, r107_63, r107_64, r107_65, r107_68, r107_70, r107_71, r107_72, r107_73, r107_74, r107_76, r107_77, r107_78, r107_79, r107_81, r107_84, r107_85, r107_88, r107_90, r107_91, r107_92, r107_93, r107_94, r107_95, r107_96, r107_97, r107_98, r107_100, r107_102, r107_103, r107_104, r107_105, r107_106, r107_109, r107_111, r107_112, r107_113, r107_114, r107_115, r107_117, r107_119, r107_120, r107_121, r107_122, r107_125, r107_126, r107_129, r107_130, r107_131, r107_132, r107_133, r107_134, r107_137, r107_138, r107_139, r107_141, r107_143, r107_144, r107_145, r107_146, r107_147, r107_150, r107_151, r107_152, r107_153, r107_154, r107_155, r107_156, r107_157, r107_159, r107_161, r107_164, r107_165, r107_168, r107_169, r107_170, tb_vl_some, tb_vl_none, tb_wF_some, nI_add, pk_mul, e_sub, e_div, tb_nmod, e_dec, e_le, e_lt, e_eq, e_eq0, e_lt0, e_0le, e_0lt, e_le0, if_true, if_false, not_true_eq_false, not_false_eq_true, ite_true, ite_false, Nat.reduceAdd, Nat.reduceMul, Nat.reduceLeDiff, Nat.reduceLT, Nat.reduceEqDiff, Nat.reduceSub, ↓reduceIte, Nat.reduceDiv, Nat.reduceMod]
      refine hQ h5 ⟨?_, ?_⟩ (fun q q1 q2 => ?_)
      · unfold sp_sl
        dsimp only
        rw [if_pos h7]
        exact hM5
      · unfold sp_cm
        rw [if_pos h7]
        exact A4.to (hF5 _ (by omega)) (fun _ _ => rfl)
      · rw [hF5 q q1, hF4 q q1, hF3 q q1, hF2 q q1]
    · simp (disch := first | assumption | omega | exact tb_sm0 | exact tb_sm1 _ | exact tb_sm2 _ _ | exact tb_sm3 _ _ _ | exact tb_sm4 _ _ _ _ | exact Or.inl rfl | exact Or.inr rfl | fail) only [r107_0, r107_1, r107_2, r107_3, r107_6, r107_8, r107_9, r107_12, r107_13, r107_14, r107_15, r107_18, r107_19, r107_21, r107_23, r107_25, r107_28, r107_30, r107_33, r107_35, r107_37, r107_39, r107_40, r107_43, r107_44, r107_45, r107_46, r107_48, r107_49, r107_52, r107_53, r107_54, r107_55, r107_58, r107_59, r107_60, r107_62, r107_63, r107_64, r107_65, r107_68, r107_70, r107_71, r107_72, r107_73, r107_74, r107_76, r107_77, r107_78, r107_79, r107_81, r107_84, r107_85, r107_88, r107_90, r107_91, r107_92, r107_93, r107_94, r107_95, r107_96, r107_97, r107_98, r107_100, r107_102, r107_103, r107_104, r107_105, r107_106, r107_109, r107_111, r107_112, r107_113, r107_114, r107_115, r107_117, r107_119, r107_120, r107_121, r107_122, r107_125, r107_126, r107_129, r107_130, r107_131, r107_132, r107_133, r107_134, r107_137, r107_138, r107_139, r107_141, r107_143, r107_144, r107_145, r107_146, r107_147, r107_150, r107_151, r107_152, r107_153, r107_154, r107_155, r107_156, r107_157, r107_159, r107_161, r107_164, r107_165, r107_168, r107_169, r107_170, h7, m_heap, g3, hM3.ld, tb_vl_some, tb_vl_none, tb_wF_some, nI_add, pk_mul, e_sub, e_div, tb_nmod, e_dec, e_le, e_lt, e_eq, e_eq0, e_lt0, e_0le, e_0lt, e_le0, if_true, if_false, not_true_eq_false, not_false_eq_true, ite_true, ite_false, Nat.reduceAdd, Nat.reduceMul, Nat.reduceLeDiff, Nat.reduceLT, Nat.reduceEqDiff, Nat.reduceSub, ↓reduceIte, Nat.reduceDiv, Nat.reduceMod]
      refine hM3.st (by omega) (fun h4 hM4 hF4 => ?_)
      have g4 := hM4.g
      have A4 : tb_MC h4 m _ cm := ⟨hM4, A3.to (hF4 _ (by omega)) (fun _ _ => rfl)⟩
      have fin : ∀ v, v = (if sp_g s b c k ≤ sp_g s b c k / s 3 then 0 else 1) → tb_wF (tb_stv h4 0 (m + 7) (nI (4 * c + 4 + k)) (nI v)) (fun h2 => tb_wp E d 107 170 [.ref m, .int (nI b), .int (nI c), .int (nI k), .int (nI (sp_room s b c)), .int (nI (sp_g s b c k)), .int (nI (sp_g s b c k / s 3))] [] h2 nx 0 0 Q) := by
        rintro v rfl
        refine A4.st (by omega) (fun h5 hM5 hF5 => ?_)
        simp (disch := first | assumption | omega | exact tb_sm0 | exact tb_sm1 _ | exact tb_sm2 _ _ | exact tb_sm3 _ _ _ | exact tb_sm4 _ _ _ _ | exact Or.inl rfl | exact Or.inr rfl | fail) only [r107_0, r107_1, r107_2, r107_3, r107_6, r107_8, r107_9, r107_12, r107_13, r107_14, r107_15, r107_18, r107_19, r107_21, r107_23, r107_25, r107_28, r107_30, r107_33, r107_35, r107_37, r107_39, r107_40, r107_43, r107_44, r107_45, r107_46, r107_48, r107_49, r107_52, r107_53, r107_54, r107_55, r107_58, r107_59, r107_60, r107_62, r107_63, r107_64, r107_65, r107_68, r107_70, r107_71, r107_72, r107_73, r107_74, r107_76, r107_77, r107_78, r107_79, r107_81, r107_84, r107_85, r107_88, r107_90, r107_91, r107_92, r107_93, r107_94, r107_95, r107_96, r107_97, r107_98, r107_100, r107_102, r107_103, r107_104, r107_105, r107_106, r107_109, r107_111, r107_112, r107_113, r107_114, r107_115, r107_117, r107_119, r107_120, r107_121, r107_122, r107_125, r107_126, r107_129, r107_130, r107_131, r107_132, r107_133, r107_134, r107_137, r107_138, r107_139, r107_141, r107_143, r107_144, r107_145, r107_146, r107_147, r107_150, r107_151, r107_152, r107_153, r107_154, r107_155, r107_156, r107_157, r107_159, r107_161, r107_164, r107_165, r107_168, r107_169, r107_170, tb_vl_some, tb_vl_none, tb_wF_some, nI_add, pk_mul, e_sub, e_div, tb_nmod, e_dec, e_le, e_lt, e_eq, e_eq0, e_lt0, e_0le, e_0lt, e_le0, if_true, if_false, not_true_eq_false, not_false_eq_true, ite_true, ite_false, Nat.reduceAdd, Nat.reduceMul, Nat.reduceLeDiff, Nat.reduceLT, Nat.reduceEqDiff, Nat.reduceSub, ↓reduceIte, Nat.reduceDiv, Nat.reduceMod]
        refine hQ h5 ⟨?_, ?_⟩ (fun q q1 q2 => ?_)
        · unfold sp_sl
          dsimp only
          rw [if_neg h7]
          exact hM5.1
        · unfold sp_cm
          rw [if_neg h7]
          exact hM5.2
        · rw [hF5 q q2, hF4 q q1, hF3 q q1, hF2 q q1]
      by_cases h8 : sp_g s b c k ≤ sp_g s b c k / s 3
      · simp (disch := first | assumption | omega | exact tb_sm0 | exact tb_sm1 _ | exact tb_sm2 _ _ | exact tb_sm3 _ _ _ | exact tb_sm4 _ _ _ _ | exact Or.inl rfl | exact Or.inr rfl | fail) only [r107_0, r107_1, r107_2, r107_3, r107_6, r107_8, r107_9, r107_12, r107_13, r107_14, r107_15, r107_18, r107_19, r107_21, r107_23, r107_25, r107_28, r107_30, r107_33, r107_35, r107_37, r107_39, r107_40, r107_43, r107_44, r107_45, r107_46, r107_48, r107_49, r107_52, r107_53, r107_54, r107_55, r107_58, r107_59, r107_60, r107_62, r107_63, r107_64, r107_65, r107_68, r107_70, r107_71, r107_72, r107_73, r107_74, r107_76, r107_77, r107_78, r107_79, r107_81, r107_84, r107_85, r107_88, r107_90, r107_91, r107_92, r107_93, r107_94, r107_95, r107_96, r107_97, r107_98, r107_100, r107_102, r107_103, r107_104, r107_105, r107_106, r107_109, r107_111, r107_112, r107_113, r107_114, r107_115, r107_117, r107_119, r107_120, r107_121, r107_122, r107_125, r107_126, r107_129, r107_130, r107_131, r107_132, r107_133, r107_134, r107_137, r107_138, r107_139, r107_141, r107_143, r107_144, r107_145, r107_146, r107_147, r107_150, r107_151, r107_152, r107_153, r107_154, r107_155, r107_156, r107_157, r107_159, r107_161, r107_164, r107_165, r107_168, r107_169, m_heap, g4, hM4.ld, h8, tb_vl_some, tb_vl_none, tb_wF_some, nI_add, pk_mul, e_sub, e_div, tb_nmod, e_dec, e_le, e_lt, e_eq, e_eq0, e_lt0, e_0le, e_0lt, e_le0, if_true, if_false, not_true_eq_false, not_false_eq_true, ite_true, ite_false, Nat.reduceAdd, Nat.reduceMul, Nat.reduceLeDiff, Nat.reduceLT, Nat.reduceEqDiff, Nat.reduceSub, ↓reduceIte, Nat.reduceDiv, Nat.reduceMod]
        exact fin 0 (by rw [if_pos h8])
      · simp (disch := first | assumption | omega | exact tb_sm0 | exact tb_sm1 _ | exact tb_sm2 _ _ | exact tb_sm3 _ _ _ | exact tb_sm4 _ _ _ _ | exact Or.inl rfl | exact Or.inr rfl | fail) only [r107_0, r107_1, r107_2, r107_3, r107_6, r107_8, r107_9, r107_12, r107_13, r107_14, r107_15, r107_18, r107_19, r107_21, r107_23, r107_25, r107_28, r107_30, r107_33, r107_35, r107_37, r107_39, r107_40, r107_43, r107_44, r107_45, r107_46, r107_48, r107_49, r107_52, r107_53, r107_54, r107_55, r107_58, r107_59, r107_60, r107_62, r107_63, r107_64, r107_65, r107_68, r107_70, r107_71, r107_72, r107_73, r107_74, r107_76, r107_77, r107_78, r107_79, r107_81, r107_84, r107_85, r107_88, r107_90, r107_91, r107_92, r107_93, r107_94, r107_95, r107_96, r107_97, r107_98, r107_100, r107_102, r107_103, r107_104, r107_105, r107_106, r107_109, r107_111, r107_112, r107_113, r107_114, r107_115, r107_117, r107_119, r107_120, r107_121, r107_122, r107_125, r107_126, r107_129, r107_130, r107_131, r107_132, r107_133, r107_134, r107_137, r107_138, r107_139, r107_141, r107_143, r107_144, r107_145, r107_146, r107_147, r107_150, r107_151, r107_152, r107_153, r107_154, r107_155, r107_156, r107_157, r107_159, r107_161, r107_164, r107_165, r107_168, r107_169, m_heap, g4, hM4.ld, h8, tb_vl_some, tb_vl_none, tb_wF_some, nI_add, pk_mul, e_sub, e_div, tb_nmod, e_dec, e_le, e_lt, e_eq, e_eq0, e_lt0, e_0le, e_0lt, e_le0, if_true, if_false, not_true_eq_false, not_false_eq_true, ite_true, ite_false, Nat.reduceAdd, Nat.reduceMul, Nat.reduceLeDiff, Nat.reduceLT, Nat.reduceEqDiff, Nat.reduceSub, ↓reduceIte, Nat.reduceDiv, Nat.reduceMod]
        exact fin 1 (by rw [if_neg h8])
  by_cases hg : s (48 + 32 * b + 4 * c + k) < sp_room s b c
  · have e : sp_g s b c k = s (48 + 32 * b + 4 * c + k) := by unfold sp_g; rw [if_pos hg]
    rw [e] at key
    have hg' : ¬ sp_room s b c ≤ s (48 + 32 * b + 4 * c + k) := by omega
    simp (disch := first | assumption | omega | exact tb_sm0 | exact tb_sm1 _ | exact tb_sm2 _ _ | exact tb_sm3 _ _ _ | exact tb_sm4 _ _ _ _ | exact Or.inl rfl | exact Or.inr rfl | fail) only [r107_0, r107_1, r107_2, r107_3, r107_6, r107_8, r107_9, r107_12, r107_13, r107_14, r107_15, r107_18, r107_19, r107_21, r107_23, r107_25, r107_28, r107_30, r107_33, r107_35, r107_39, r107_40, r107_43, r107_44, r107_45, r107_46, r107_48, r107_49, r107_52, r107_53, r107_54, r107_55, r107_58, r107_59, r107_60, r107_62, r107_63, r107_64, r107_65, r107_68, r107_70, r107_71, r107_72, r107_73, r107_74, r107_76, r107_77, r107_78, r107_79, r107_81, r107_84, r107_85, r107_88, r107_90, r107_91, r107_92, r107_93, r107_94, r107_95, r107_96, r107_97, r107_98, r107_100, r107_102, r107_103, r107_104, r107_105, r107_106, r107_109, r107_111, r107_112, r107_113, r107_114, r107_115, r107_117, r107_119, r107_120, r107_121, r107_122, r107_125, r107_126, r107_129, r107_130, r107_131, r107_132, r107_133, r107_134, r107_137, r107_138, r107_139, r107_141, r107_143, r107_144, r107_145, r107_146, r107_147, r107_150, r107_151, r107_152, r107_153, r107_154, r107_155, r107_156, r107_157, r107_159, r107_161, r107_164, r107_165, r107_168, r107_169, r107_170, m_heap, m_roomBelow h0 hI, h1, h0.ld, hg', tb_vl_some, tb_vl_none, tb_wF_some, nI_add, pk_mul, e_sub, e_div, tb_nmod, e_dec, e_le, e_lt, e_eq, e_eq0, e_lt0, e_0le, e_0lt, e_le0, if_true, if_false, not_true_eq_false, not_false_eq_true, ite_true, ite_false, Nat.reduceAdd, Nat.reduceMul, Nat.reduceLeDiff, Nat.reduceLT, Nat.reduceEqDiff, Nat.reduceSub, ↓reduceIte, Nat.reduceDiv, Nat.reduceMod]
    exact key
  · have e : sp_g s b c k = sp_room s b c := by unfold sp_g; rw [if_neg hg]
    rw [e] at key
    have hg' : sp_room s b c ≤ s (48 + 32 * b + 4 * c + k) := by omega
    simp (disch := first | assumption | omega | exact tb_sm0 | exact tb_sm1 _ | exact tb_sm2 _ _ | exact tb_sm3 _ _ _ | exact tb_sm4 _ _ _ _ | exact Or.inl rfl | exact Or.inr rfl | fail) only [r107_0, r107_1, r107_2, r107_3, r107_6, r107_8, r107_9, r107_12, r107_13, r107_14, r107_15, r107_18, r107_19, r107_21, r107_23, r107_25, r107_28, r107_30, r107_33, r107_35, r107_39, r107_40, r107_43, r107_44, r107_45, r107_46, r107_48, r107_49, r107_52, r107_53, r107_54, r107_55, r107_58, r107_59, r107_60, r107_62, r107_63, r107_64, r107_65, r107_68, r107_70, r107_71, r107_72, r107_73, r107_74, r107_76, r107_77, r107_78, r107_79, r107_81, r107_84, r107_85, r107_88, r107_90, r107_91, r107_92, r107_93, r107_94, r107_95, r107_96, r107_97, r107_98, r107_100, r107_102, r107_103, r107_104, r107_105, r107_106, r107_109, r107_111, r107_112, r107_113, r107_114, r107_115, r107_117, r107_119, r107_120, r107_121, r107_122, r107_125, r107_126, r107_129, r107_130, r107_131, r107_132, r107_133, r107_134, r107_137, r107_138, r107_139, r107_141, r107_143, r107_144, r107_145, r107_146, r107_147, r107_150, r107_151, r107_152, r107_153, r107_154, r107_155, r107_156, r107_157, r107_159, r107_161, r107_164, r107_165, r107_168, r107_169, r107_170, m_heap, m_roomBelow h0 hI, h1, h0.ld, hg', tb_vl_some, tb_vl_none, tb_wF_some, nI_add, pk_mul, e_sub, e_div, tb_nmod, e_dec, e_le, e_lt, e_eq, e_eq0, e_lt0, e_0le, e_0lt, e_le0, if_true, if_false, not_true_eq_false, not_false_eq_true, ite_true, ite_false, Nat.reduceAdd, Nat.reduceMul, Nat.reduceLeDiff, Nat.reduceLT, Nat.reduceEqDiff, Nat.reduceSub, ↓reduceIte, Nat.reduceDiv, Nat.reduceMod]
    exact key
theorem m_tick_t {m b c t : Nat} {y : Value} {q : (Nat → Nat) × (Nat → Nat)} (hM : tb_MC h m q.1 q.2) (hI : sp_I q.1) (hb : b < 5) (hc : c < 8) (ht : t < 4) (hd : 4 ≤ d) (hQ : ∀ h' y', tb_MC h' m (sp_slot q b c t).1 (sp_slot q b c t).2 → (∀ q, q ≠ m + 1 → q ≠ m + 7 → h' q = h q) → tb_wp E d 109 30 [.ref m, .int (nI b), .int (nI c), .int (nI (t + 1)), y'] [] h' nx 0 0 Q) :
    tb_wp E d 109 30 [.ref m, .int (nI b), .int (nI c), .int (nI t), y] [] h nx 0 0 Q := by
  have hO := hM.1.O
  have hk := (sp_kd_ok q.1 ht).1
  simp (disch := first | assumption | omega | exact tb_sm0 | exact tb_sm1 _ | exact tb_sm2 _ _ | exact tb_sm3 _ _ _ | exact tb_sm4 _ _ _ _ | exact Or.inl rfl | exact Or.inr rfl | fail) only [r109_30, r109_31, r109_32, nI_add, pk_mul, e_sub, e_div, tb_nmod, e_dec, e_le, e_lt, e_eq, e_eq0, e_lt0, e_0le, e_0lt, e_le0, if_true, if_false, not_true_eq_false, not_false_eq_true, ite_true, ite_false, Nat.reduceAdd, Nat.reduceMul, Nat.reduceLeDiff, Nat.reduceLT, Nat.reduceEqDiff, Nat.reduceSub, ↓reduceIte, Nat.reduceDiv, Nat.reduceMod]
  rw [if_neg (by omega)]
  have hwl : sp_why q.1 b c (sp_kd q.1 t) ≤ 3 := by unfold sp_why; split; decide; split; decide; split <;> decide
  by_cases hw : sp_why q.1 b c (sp_kd q.1 t) = 0
  · simp (disch := first | assumption | omega | exact tb_sm0 | exact tb_sm1 _ | exact tb_sm2 _ _ | exact tb_sm3 _ _ _ | exact tb_sm4 _ _ _ _ | exact Or.inl rfl | exact Or.inr rfl | fail) only [r109_0, r109_1, r109_2, r109_3, r109_5, r109_8, r109_9, r109_12, r109_13, r109_14, r109_15, r109_18, r109_21, r109_23, r109_24, r109_25, r109_28, r109_29, r109_31, r109_32, r109_35, r109_36, r109_37, r109_40, r109_42, r109_43, r109_44, r109_45, r109_47, r109_50, r109_53, r109_54, r109_55, r109_56, r109_58, r109_61, r109_64, r109_67, r109_70, r109_73, r109_74, r109_75, r109_76, r109_78, r109_81, r109_82, r109_85, r109_88, r109_90, r109_91, r109_92, r109_93, r109_94, r109_95, r109_96, r109_99, r109_100, r109_101, r109_102, r109_105, r109_108, m_kindAt hM.1 hI, m_why hM.1 hI, hw, tb_vl_some, tb_vl_none, tb_wF_some, nI_add, pk_mul, e_sub, e_div, tb_nmod, e_dec, e_le, e_lt, e_eq, e_eq0, e_lt0, e_0le, e_0lt, e_le0, if_true, if_false, not_true_eq_false, not_false_eq_true, ite_true, ite_false, Nat.reduceAdd, Nat.reduceMul, Nat.reduceLeDiff, Nat.reduceLT, Nat.reduceEqDiff, Nat.reduceSub, ↓reduceIte, Nat.reduceDiv, Nat.reduceMod]
    refine m_slides hM hI hb hc hk (by omega) (fun h2 hM2 hF2 => ?_)
    simp (disch := first | assumption | omega | exact tb_sm0 | exact tb_sm1 _ | exact tb_sm2 _ _ | exact tb_sm3 _ _ _ | exact tb_sm4 _ _ _ _ | exact Or.inl rfl | exact Or.inr rfl | fail) only [r109_0, r109_1, r109_2, r109_3, r109_5, r109_8, r109_9, r109_12, r109_13, r109_14, r109_15, r109_18, r109_21, r109_23, r109_24, r109_25, r109_28, r109_29, r109_31, r109_32, r109_35, r109_36, r109_37, r109_40, r109_42, r109_43, r109_44, r109_45, r109_47, r109_50, r109_53, r109_54, r109_55, r109_56, r109_58, r109_61, r109_64, r109_67, r109_70, r109_73, r109_74, r109_75, r109_76, r109_78, r109_81, r109_82, r109_85, r109_88, r109_90, r109_91, r109_92, r109_93, r109_94, r109_95, r109_96, r109_99, r109_100, r109_101, r109_102, r109_105, r109_108, tb_vl_some, tb_vl_none, tb_wF_some, nI_add, pk_mul, e_sub, e_div, tb_nmod, e_dec, e_le, e_lt, e_eq, e_eq0, e_lt0, e_0le, e_0lt, e_le0, if_true, if_false, not_true_eq_false, not_false_eq_true, ite_true, ite_false, Nat.reduceAdd, Nat.reduceMul, Nat.reduceLeDiff, Nat.reduceLT, Nat.reduceEqDiff, Nat.reduceSub, ↓reduceIte, Nat.reduceDiv, Nat.reduceMod]
    refine hQ h2 _ ?_ hF2
    unfold sp_slot
    rw [if_pos hw]
    exact hM2
  · simp (disch := first | assumption | omega | exact tb_sm0 | exact tb_sm1 _ | exact tb_sm2 _ _ | exact tb_sm3 _ _ _ | exact tb_sm4 _ _ _ _ | exact Or.inl rfl | exact Or.inr rfl | fail) only [r109_0, r109_1, r109_2, r109_3, r109_5, r109_8, r109_9, r109_12, r109_13, r109_14, r109_15, r109_18, r109_21, r109_23, r109_24, r109_25, r109_28, r109_29, r109_31, r109_32, r109_35, r109_36, r109_37, r109_40, r109_42, r109_43, r109_44, r109_45, r109_47, r109_50, r109_53, r109_54, r109_55, r109_56, r109_58, r109_61, r109_64, r109_67, r109_70, r109_73, r109_74, r109_75, r109_76, r109_78, r109_81, r109_82, r109_85, r109_88, r109_90, r109_91, r109_92, r109_93, r109_94, r109_95, r109_96, r109_99, r109_100, r109_101, r109_102, r109_105, r109_108, m_kindAt hM.1 hI, m_why hM.1 hI, hw, tb_vl_some, tb_vl_none, tb_wF_some, nI_add, pk_mul, e_sub, e_div, tb_nmod, e_dec, e_le, e_lt, e_eq, e_eq0, e_lt0, e_0le, e_0lt, e_le0, if_true, if_false, not_true_eq_false, not_false_eq_true, ite_true, ite_false, Nat.reduceAdd, Nat.reduceMul, Nat.reduceLeDiff, Nat.reduceLT, Nat.reduceEqDiff, Nat.reduceSub, ↓reduceIte, Nat.reduceDiv, Nat.reduceMod]
    refine hQ h _ ?_ (fun _ _ _ => rfl)
    unfold sp_slot
    rw [if_neg hw]
    exact hM
theorem m_tick_c {m b : Nat} (hb : b < 5) (hd : 4 ≤ d) (n : Nat) : ∀ (h : tb_heap) (q : (Nat → Nat) × (Nat → Nat)) (y z : Value), n ≤ 8 → tb_MC h m q.1 q.2 → sp_I q.1 → (∀ h' y' z', tb_MC h' m (sp_down b n q).1 (sp_down b n q).2 → (∀ q, q ≠ m + 1 → q ≠ m + 7 → h' q = h q) → tb_wp E d 109 73 [.ref m, .int (nI b), .int (nI 0 + (-1)), y', z'] [] h' nx 0 0 Q) →
    tb_wp E d 109 24 [.ref m, .int (nI b), .int (nI n + (-1)), y, z] [] h nx 0 0 Q := by
  induction n with
  | zero =>
    intro h q y z hn hM hI hQ
    simp (disch := first | assumption | omega | exact tb_sm0 | exact tb_sm1 _ | exact tb_sm2 _ _ | exact tb_sm3 _ _ _ | exact tb_sm4 _ _ _ _ | exact Or.inl rfl | exact Or.inr rfl | fail) only [r109_24, r109_25]
    rw [if_pos (by decide)]
    exact hQ h y z hM (fun _ _ _ => rfl)
  | succ n ih =>
    intro h q y z hn hM hI hQ
    simp (disch := first | assumption | omega | exact tb_sm0 | exact tb_sm1 _ | exact tb_sm2 _ _ | exact tb_sm3 _ _ _ | exact tb_sm4 _ _ _ _ | exact Or.inl rfl | exact Or.inr rfl | fail) only [r109_24, r109_25, nI_add, pk_mul, e_sub, e_div, tb_nmod, e_dec, e_le, e_lt, e_eq, e_eq0, e_lt0, e_0le, e_0lt, e_le0, if_true, if_false, not_true_eq_false, not_false_eq_true, ite_true, ite_false, Nat.reduceAdd, Nat.reduceMul, Nat.reduceLeDiff, Nat.reduceLT, Nat.reduceEqDiff, Nat.reduceSub, ↓reduceIte, Nat.reduceDiv, Nat.reduceMod, Nat.add_sub_cancel]
    simp (disch := first | assumption | omega | exact tb_sm0 | exact tb_sm1 _ | exact tb_sm2 _ _ | exact tb_sm3 _ _ _ | exact tb_sm4 _ _ _ _ | exact Or.inl rfl | exact Or.inr rfl | fail) only [r109_28, r109_29]
    refine m_tick_t hM hI hb (by omega) (by decide) hd (fun h1 y1 hM1 hF1 => ?_)
    have I1 := sp_slot_I hI hb (show n < 8 by omega) (show 0 < 4 by decide)
    refine m_tick_t hM1 I1 hb (by omega) (by decide) hd (fun h2 y2 hM2 hF2 => ?_)
    have I2 := sp_slot_I I1 hb (show n < 8 by omega) (show 0 + 1 < 4 by decide)
    refine m_tick_t hM2 I2 hb (by omega) (by decide) hd (fun h3 y3 hM3 hF3 => ?_)
    have I3 := sp_slot_I I2 hb (show n < 8 by omega) (show 0 + 1 + 1 < 4 by decide)
    refine m_tick_t hM3 I3 hb (by omega) (by decide) hd (fun h4 y4 hM4 hF4 => ?_)
    simp (disch := first | assumption | omega | exact tb_sm0 | exact tb_sm1 _ | exact tb_sm2 _ _ | exact tb_sm3 _ _ _ | exact tb_sm4 _ _ _ _ | exact Or.inl rfl | exact Or.inr rfl | fail) only [r109_30, r109_31, r109_32, r109_67, r109_70, e_le, Nat.reduceAdd, Nat.reduceLeDiff, if_true, ↓reduceIte]
    refine ih h4 (sp_cell q b n) _ _ (by omega) hM4 (sp_cell_I hI hb (by omega)) (fun h5 y5 z5 hM5 hF5 => hQ h5 y5 z5 hM5 (fun q q1 q2 => ?_))
    rw [hF5 q q1 q2, hF4 q q1 q2, hF3 q q1 q2, hF2 q q1 q2, hF1 q q1 q2]
theorem m_tick_a {m b : Nat} (hb : b < 5) {s : Nat → Nat} {y z : Value} (n : Nat) : ∀ (i : Nat) (h : tb_heap) (F : Nat → Int32), i + n = 32 → tb_MS h m s → tb_isA h (m + 7) 0 32 F → (∀ j, j < i → F j = nI 0) → (∀ h', tb_MC h' m s (fun _ => 0) → (∀ q, q ≠ m + 7 → h' q = h q) → tb_wp E d 109 21 [.ref m, .int (nI b), .int (nI 32), y, z] [] h' nx 0 0 Q) →
    tb_wp E d 109 2 [.ref m, .int (nI b), .int (nI i), y, z] [] h nx 0 0 Q := by
  induction n with
  | zero =>
    intro i h F hi hM hA hF hQ
    simp (disch := first | assumption | omega | exact tb_sm0 | exact tb_sm1 _ | exact tb_sm2 _ _ | exact tb_sm3 _ _ _ | exact tb_sm4 _ _ _ _ | exact Or.inl rfl | exact Or.inr rfl | fail) only [r109_2, r109_3, r109_5, nI_add, pk_mul, e_sub, e_div, tb_nmod, e_dec, e_le, e_lt, e_eq, e_eq0, e_lt0, e_0le, e_0lt, e_le0, if_true, if_false, not_true_eq_false, not_false_eq_true, ite_true, ite_false, Nat.reduceAdd, Nat.reduceMul, Nat.reduceLeDiff, Nat.reduceLT, Nat.reduceEqDiff, Nat.reduceSub, ↓reduceIte, Nat.reduceDiv, Nat.reduceMod]
    rw [if_pos (by omega)]
    have e : i = 32 := by omega
    subst e
    exact hQ h ⟨hM, hA.to rfl (fun j hj => hF j hj)⟩ (fun _ _ => rfl)
  | succ n ih =>
    intro i h F hi hM hA hF hQ
    have g := hM.g
    simp (disch := first | assumption | omega | exact tb_sm0 | exact tb_sm1 _ | exact tb_sm2 _ _ | exact tb_sm3 _ _ _ | exact tb_sm4 _ _ _ _ | exact Or.inl rfl | exact Or.inr rfl | fail) only [r109_2, r109_3, r109_5, nI_add, pk_mul, e_sub, e_div, tb_nmod, e_dec, e_le, e_lt, e_eq, e_eq0, e_lt0, e_0le, e_0lt, e_le0, if_true, if_false, not_true_eq_false, not_false_eq_true, ite_true, ite_false, Nat.reduceAdd, Nat.reduceMul, Nat.reduceLeDiff, Nat.reduceLT, Nat.reduceEqDiff, Nat.reduceSub, ↓reduceIte, Nat.reduceDiv, Nat.reduceMod]
    rw [if_neg (by omega)]
    simp (disch := first | assumption | omega | exact tb_sm0 | exact tb_sm1 _ | exact tb_sm2 _ _ | exact tb_sm3 _ _ _ | exact tb_sm4 _ _ _ _ | exact Or.inl rfl | exact Or.inr rfl | fail) only [r109_0, r109_1, r109_3, r109_5, r109_8, r109_9, r109_12, r109_13, r109_14, r109_15, r109_18, r109_23, r109_24, r109_25, r109_28, r109_29, r109_30, r109_31, r109_32, r109_35, r109_36, r109_37, r109_40, r109_42, r109_43, r109_44, r109_45, r109_47, r109_50, r109_53, r109_54, r109_55, r109_56, r109_58, r109_61, r109_64, r109_67, r109_70, r109_73, r109_74, r109_75, r109_76, r109_78, r109_81, r109_82, r109_85, r109_88, r109_90, r109_91, r109_92, r109_93, r109_94, r109_95, r109_96, r109_99, r109_100, r109_101, r109_102, r109_105, r109_108, g, tb_vl_some, tb_vl_none, tb_wF_some, nI_add, pk_mul, e_sub, e_div, tb_nmod, e_dec, e_le, e_lt, e_eq, e_eq0, e_lt0, e_0le, e_0lt, e_le0, if_true, if_false, not_true_eq_false, not_false_eq_true, ite_true, ite_false, Nat.reduceAdd, Nat.reduceMul, Nat.reduceLeDiff, Nat.reduceLT, Nat.reduceEqDiff, Nat.reduceSub, ↓reduceIte, Nat.reduceDiv, Nat.reduceMod]
    refine hA.st (by omega) (by decide) (fun h2 hA2 hF2 => ?_)
    try simp (disch := first | assumption | omega | exact tb_sm0 | exact tb_sm1 _ | exact tb_sm2 _ _ | exact tb_sm3 _ _ _ | exact tb_sm4 _ _ _ _ | exact Or.inl rfl | exact Or.inr rfl | fail) only [r109_0, r109_1, r109_3, r109_5, r109_8, r109_9, r109_12, r109_13, r109_14, r109_15, r109_18, r109_23, r109_24, r109_25, r109_28, r109_29, r109_30, r109_31, r109_32, r109_35, r109_36, r109_37, r109_40, r109_42, r109_43, r109_44, r109_45, r109_47, r109_50, r109_53, r109_54, r109_55, r109_56, r109_58, r109_61, r109_64, r109_67, r109_70, r109_73, r109_74, r109_75, r109_76, r109_78, r109_81, r109_82, r109_85, r109_88, r109_90, r109_91, r109_92, r109_93, r109_94, r109_95, r109_96, r109_99, r109_100, r109_101, r109_102, r109_105, r109_108, tb_vl_some, tb_vl_none, tb_wF_some, nI_add, pk_mul, e_sub, e_div, tb_nmod, e_dec, e_le, e_lt, e_eq, e_eq0, e_lt0, e_0le, e_0lt, e_le0, if_true, if_false, not_true_eq_false, not_false_eq_true, ite_true, ite_false, Nat.reduceAdd, Nat.reduceMul, Nat.reduceLeDiff, Nat.reduceLT, Nat.reduceEqDiff, Nat.reduceSub, ↓reduceIte, Nat.reduceDiv, Nat.reduceMod]
    refine ih (i + 1) h2 _ (by omega) (hM.to (hF2 _ (by omega)) (hF2 _ (by omega)) (fun _ _ => rfl)) hA2 (fun j hj => ?_) (fun h3 hM3 hF3 => hQ h3 hM3 (fun q hq => by rw [hF3 q hq, hF2 q hq]))
    unfold upd
    split
    · rfl
    · exact hF j (by omega)
theorem m_tick_z {m b : Nat} (hb : b < 5) {s0 cm : Nat → Nat} {y z : Value} (n : Nat) : ∀ (i : Nat) (h : tb_heap) (s : Nat → Nat), i + n = 32 → tb_MC h m s cm → (∀ j, s j = if 208 + 32 * b ≤ j ∧ j < 208 + 32 * b + i then cm (j - (208 + 32 * b)) else s0 j) → (∀ h', tb_MC h' m (sp_mv s0 b cm) cm → (∀ q, q ≠ m + 1 → h' q = h q) → Q none h' nx) →
    tb_wp E d 109 75 [.ref m, .int (nI b), .int (nI i), y, z] [] h nx 0 0 Q := by
  induction n with
  | zero =>
    intro i h s hi hM hs hQ
    simp (disch := first | assumption | omega | exact tb_sm0 | exact tb_sm1 _ | exact tb_sm2 _ _ | exact tb_sm3 _ _ _ | exact tb_sm4 _ _ _ _ | exact Or.inl rfl | exact Or.inr rfl | fail) only [r109_75, r109_76, r109_78, nI_add, pk_mul, e_sub, e_div, tb_nmod, e_dec, e_le, e_lt, e_eq, e_eq0, e_lt0, e_0le, e_0lt, e_le0, if_true, if_false, not_true_eq_false, not_false_eq_true, ite_true, ite_false, Nat.reduceAdd, Nat.reduceMul, Nat.reduceLeDiff, Nat.reduceLT, Nat.reduceEqDiff, Nat.reduceSub, ↓reduceIte, Nat.reduceDiv, Nat.reduceMod]
    rw [if_pos (by omega)]
    simp (disch := first | assumption | omega | exact tb_sm0 | exact tb_sm1 _ | exact tb_sm2 _ _ | exact tb_sm3 _ _ _ | exact tb_sm4 _ _ _ _ | exact Or.inl rfl | exact Or.inr rfl | fail) only [r109_108]
    refine hQ h ⟨hM.1.to rfl rfl (fun j _ => ?_), hM.2⟩ (fun _ _ => rfl)
    rw [hs j]
    unfold sp_mv
    have e : i = 32 := by omega
    subst e
    by_cases c : 208 + 32 * b ≤ j ∧ j < 208 + 32 * b + 32
    · rw [if_pos c, if_pos (by omega)]
    · rw [if_neg c, if_neg (by omega)]
  | succ n ih =>
    intro i h s hi hM hs hQ
    have g := hM.1.g
    have ld : ∀ {j : Nat} (hj : j < 32) {K : Int32 → Prop}, tb_wF (tb_ld E h 0 (m + 7) (nI j)) K = K (nI (cm j)) := fun hj => hM.2.ld hj (by decide)
    simp (disch := first | assumption | omega | exact tb_sm0 | exact tb_sm1 _ | exact tb_sm2 _ _ | exact tb_sm3 _ _ _ | exact tb_sm4 _ _ _ _ | exact Or.inl rfl | exact Or.inr rfl | fail) only [r109_75, r109_76, r109_78, nI_add, pk_mul, e_sub, e_div, tb_nmod, e_dec, e_le, e_lt, e_eq, e_eq0, e_lt0, e_0le, e_0lt, e_le0, if_true, if_false, not_true_eq_false, not_false_eq_true, ite_true, ite_false, Nat.reduceAdd, Nat.reduceMul, Nat.reduceLeDiff, Nat.reduceLT, Nat.reduceEqDiff, Nat.reduceSub, ↓reduceIte, Nat.reduceDiv, Nat.reduceMod]
    rw [if_neg (by omega)]
    simp (disch := first | assumption | omega | exact tb_sm0 | exact tb_sm1 _ | exact tb_sm2 _ _ | exact tb_sm3 _ _ _ | exact tb_sm4 _ _ _ _ | exact Or.inl rfl | exact Or.inr rfl | fail) only [r109_0, r109_1, r109_2, r109_3, r109_5, r109_8, r109_9, r109_12, r109_13, r109_14, r109_15, r109_18, r109_21, r109_23, r109_24, r109_25, r109_28, r109_29, r109_30, r109_31, r109_32, r109_35, r109_36, r109_37, r109_40, r109_42, r109_43, r109_44, r109_45, r109_47, r109_50, r109_53, r109_54, r109_55, r109_56, r109_58, r109_61, r109_64, r109_67, r109_70, r109_73, r109_74, r109_76, r109_78, r109_81, r109_82, r109_85, r109_88, r109_90, r109_91, r109_92, r109_93, r109_94, r109_95, r109_96, r109_99, r109_100, r109_101, r109_102, r109_105, r109_108, g, ld, tb_vl_some, tb_vl_none, tb_wF_some, nI_add, pk_mul, e_sub, e_div, tb_nmod, e_dec, e_le, e_lt, e_eq, e_eq0, e_lt0, e_0le, e_0lt, e_le0, if_true, if_false, not_true_eq_false, not_false_eq_true, ite_true, ite_false, Nat.reduceAdd, Nat.reduceMul, Nat.reduceLeDiff, Nat.reduceLT, Nat.reduceEqDiff, Nat.reduceSub, ↓reduceIte, Nat.reduceDiv, Nat.reduceMod]
    refine hM.1.st (by omega) (fun h2 hM2 hF2 => ?_)
    try simp (disch := first | assumption | omega | exact tb_sm0 | exact tb_sm1 _ | exact tb_sm2 _ _ | exact tb_sm3 _ _ _ | exact tb_sm4 _ _ _ _ | exact Or.inl rfl | exact Or.inr rfl | fail) only [r109_0, r109_1, r109_2, r109_3, r109_5, r109_8, r109_9, r109_12, r109_13, r109_14, r109_15, r109_18, r109_21, r109_23, r109_24, r109_25, r109_28, r109_29, r109_30, r109_31, r109_32, r109_35, r109_36, r109_37, r109_40, r109_42, r109_43, r109_44, r109_45, r109_47, r109_50, r109_53, r109_54, r109_55, r109_56, r109_58, r109_61, r109_64, r109_67, r109_70, r109_73, r109_74, r109_76, r109_78, r109_81, r109_82, r109_85, r109_88, r109_90, r109_91, r109_92, r109_93, r109_94, r109_95, r109_96, r109_99, r109_100, r109_101, r109_102, r109_105, r109_108, tb_vl_some, tb_vl_none, tb_wF_some, nI_add, pk_mul, e_sub, e_div, tb_nmod, e_dec, e_le, e_lt, e_eq, e_eq0, e_lt0, e_0le, e_0lt, e_le0, if_true, if_false, not_true_eq_false, not_false_eq_true, ite_true, ite_false, Nat.reduceAdd, Nat.reduceMul, Nat.reduceLeDiff, Nat.reduceLT, Nat.reduceEqDiff, Nat.reduceSub, ↓reduceIte, Nat.reduceDiv, Nat.reduceMod]
    refine ih (i + 1) h2 _ (by omega) ⟨hM2, hM.2.to (hF2 _ (by omega)) (fun _ _ => rfl)⟩ (fun j => ?_) (fun h3 hM3 hF3 => hQ h3 hM3 (fun q hq => by rw [hF3 q hq, hF2 q hq]))
    unfold va_up
    by_cases c : j = 208 + 32 * b + i
    · rw [if_pos c, if_pos (by omega), show j - (208 + 32 * b) = i by omega]
    · rw [if_neg c, hs j]
      by_cases c2 : 208 + 32 * b ≤ j ∧ j < 208 + 32 * b + i
      · rw [if_pos c2, if_pos (by omega)]
      · rw [if_neg c2, if_neg (by omega)]
theorem m_tick {m b : Nat} {s : Nat → Nat} {F : Nat → Int32} (hM : tb_MS h m s) (hA : tb_isA h (m + 7) 0 32 F) (hI : sp_I s) (hb : b < 5) (hd : 4 ≤ d) (hQ : ∀ h' cm, tb_MC h' m (sp_tick s b) cm → (∀ q, q ≠ m + 1 → q ≠ m + 7 → h' q = h q) → Q none h' nx) :
    tb_wp E d 109 0 [.ref m, .int (nI b), .long 0, .long 0, .long 0] [] h nx 0 0 Q := by
  simp (disch := first | assumption | omega | exact tb_sm0 | exact tb_sm1 _ | exact tb_sm2 _ _ | exact tb_sm3 _ _ _ | exact tb_sm4 _ _ _ _ | exact Or.inl rfl | exact Or.inr rfl | fail) only [r109_0, r109_1]
  refine m_tick_a hb 32 0 h F rfl hM hA (fun j hj => by omega) (fun h1 hM1 hF1 => ?_)
  simp (disch := first | assumption | omega | exact tb_sm0 | exact tb_sm1 _ | exact tb_sm2 _ _ | exact tb_sm3 _ _ _ | exact tb_sm4 _ _ _ _ | exact Or.inl rfl | exact Or.inr rfl | fail) only [r109_21, r109_23]
  rw [show nI 7 = nI 8 + (-1) by decide]
  refine m_tick_c hb hd 8 h1 (s, fun _ => 0) _ _ (Nat.le_refl 8) hM1 hI (fun h2 y2 z2 hM2 hF2 => ?_)
  simp (disch := first | assumption | omega | exact tb_sm0 | exact tb_sm1 _ | exact tb_sm2 _ _ | exact tb_sm3 _ _ _ | exact tb_sm4 _ _ _ _ | exact Or.inl rfl | exact Or.inr rfl | fail) only [r109_73, r109_74]
  refine m_tick_z hb 32 0 h2 _ rfl hM2 (fun j => by rw [if_neg (by omega)]) (fun h3 hM3 hF3 => hQ h3 _ hM3 (fun q q1 q2 => ?_))
  rw [hF3 q q1, hF2 q q1 q2, hF1 q q2]
end M3
