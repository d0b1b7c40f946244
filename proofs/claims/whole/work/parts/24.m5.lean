/-! THE REFERENCE: what acts do -/
def sp_pan (s : Nat → Nat) (b : Nat) : Nat := s (28 + 4 * b) + s (28 + 4 * b + 1) + s (28 + 4 * b + 2) + s (28 + 4 * b + 3)
def sp_heaps (s : Nat → Nat) (b : Nat) : Nat := sp_acc (fun j => if 0 < s (48 + 32 * b + j) then 1 else 0) 32
def sp_fell (s : Nat → Nat) : Nat := sp_acc (fun j => s (18 + j)) 5
def sp_jolt (s : Nat → Nat) (b : Nat) : Nat → Nat := fun j => if 208 + 32 * b ≤ j ∧ j < 240 + 32 * b ∧ 0 < s (j - 160) then 1 else s j
def sp_empty (s : Nat → Nat) (b : Nat) : Nat → Nat := fun j => if 28 + 4 * b ≤ j ∧ j < 32 + 4 * b then 0 else if j = 4 then s 4 + sp_pan s b else s j
def sp_pour (s : Nat → Nat) (b c k n : Nat) : Nat → Nat := va_up (va_up s (48 + 32 * b + 4 * c + k) (s (48 + 32 * b + 4 * c + k) + n)) (9 + k) (s (9 + k) + n)
def sp_tk : Nat → Nat → (Nat → Nat) → (Nat → Nat)
  | _, 0, s => s
  | i, n + 1, s => sp_tk (i + 1) n (sp_tick s (i % 5))
def sp_pass (s : Nat → Nat) (n : Nat) : Nat → Nat := va_up (sp_tk 0 (n * 5) s) 0 (sp_tk 0 (n * 5) s 0 + n)
def sp_rb (s : Nat → Nat) (b : Nat) : Bool := (List.range 32).all (fun k => !(sp_why s b (k / 4) (k % 4) == 0))
theorem sp_rb_t {s : Nat → Nat} {b : Nat} : sp_rb s b = true ↔ sp_rest s b := by
  unfold sp_rb sp_rest
  simp
theorem sp_rb_f {s : Nat → Nat} {b : Nat} : sp_rb s b = false ↔ ¬ sp_rest s b := by
  rw [← sp_rb_t]; simp
def sp_settle (b : Nat) : Nat → (Nat → Nat) → (Nat → Nat) × Nat
  | 0, s => (s, 0)
  | n + 1, s => if sp_rb s b = true then (s, 0) else ((sp_settle b n (sp_tick s b)).1, (sp_settle b n (sp_tick s b)).2 + 1)
theorem sp_I_tk (n : Nat) : ∀ i s, sp_I s → sp_I (sp_tk i n s) := by
  induction n with
  | zero => intro i s hI; exact hI
  | succ n ih => intro i s hI; exact ih (i + 1) _ (sp_I_tick hI (by omega))
theorem sp_I_settle {b : Nat} (hb : b < 5) (n : Nat) : ∀ s, sp_I s → sp_I (sp_settle b n s).1 := by
  induction n with
  | zero => intro s hI; exact hI
  | succ n ih =>
    intro s hI
    unfold sp_settle
    split
    · exact hI
    · exact ih _ (sp_I_tick hI hb)
theorem sp_settle_le (b : Nat) (n : Nat) : ∀ s, (sp_settle b n s).2 ≤ n := by
  induction n with
  | zero => intro s; exact Nat.le_refl 0
  | succ n ih =>
    intro s
    unfold sp_settle
    split
    · exact Nat.zero_le _
    · have := ih (sp_tick s b)
      show _ + 1 ≤ _
      omega
section M5
variable {E : tb_env} {d : Nat} {h : tb_heap} {nx : Nat} {Q : Option Value → tb_heap → Nat → Prop}
theorem m_lays {m at0 v : Nat} {s : Nat → Nat} (hM : tb_MS h m s) (ha : at0 < 368) (h1 : s at0 < 2 ^ 31) (h2 : v < 2 ^ 31) (hQ : ∀ h', tb_MS h' m (va_up s at0 v) → (∀ q, q ≠ m + 1 → h' q = h q) → Q (some (.int (if s at0 = v then -5 else nI (s at0)))) h' nx) :
    tb_wp E d 113 0 [.ref m, .int (nI at0), .int (nI v), .long 0] [] h nx 0 0 Q := by
  have g := hM.g
  by_cases c : s at0 = v
  · simp (disch := first | assumption | omega | exact tb_sm0 | exact tb_sm1 _ | exact tb_sm2 _ _ | exact tb_sm3 _ _ _ | exact tb_sm4 _ _ _ _ | exact Or.inl rfl | exact Or.inr rfl | fail) only [r113_0, r113_1, r113_4, r113_5, r113_6, r113_7, r113_8, r113_11, r113_12, r113_13, r113_14, r113_15, r113_16, r113_19, r113_21, r113_24, r113_25, g, hM.ld, c, tb_vl_some, tb_vl_none, tb_wF_some, nI_add, pk_mul, e_sub, e_div, tb_nmod, e_dec, e_le, e_lt, e_eq, e_eq0, e_lt0, e_0le, e_0lt, e_le0, if_true, if_false, not_true_eq_false, not_false_eq_true, ite_true, ite_false, Nat.reduceAdd, Nat.reduceMul, Nat.reduceLeDiff, Nat.reduceLT, Nat.reduceEqDiff, Nat.reduceSub, ↓reduceIte, Nat.reduceDiv, Nat.reduceMod]
    refine hM.st (by omega) (fun h3 hM3 hF3 => ?_)
    have := hQ h3 hM3 hF3
    rw [if_pos c] at this
    exact this
  · simp (disch := first | assumption | omega | exact tb_sm0 | exact tb_sm1 _ | exact tb_sm2 _ _ | exact tb_sm3 _ _ _ | exact tb_sm4 _ _ _ _ | exact Or.inl rfl | exact Or.inr rfl | fail) only [r113_0, r113_1, r113_4, r113_5, r113_6, r113_7, r113_8, r113_11, r113_12, r113_13, r113_14, r113_15, r113_16, r113_19, r113_21, r113_24, r113_25, g, hM.ld, c, tb_vl_some, tb_vl_none, tb_wF_some, nI_add, pk_mul, e_sub, e_div, tb_nmod, e_dec, e_le, e_lt, e_eq, e_eq0, e_lt0, e_0le, e_0lt, e_le0, if_true, if_false, not_true_eq_false, not_false_eq_true, ite_true, ite_false, Nat.reduceAdd, Nat.reduceMul, Nat.reduceLeDiff, Nat.reduceLT, Nat.reduceEqDiff, Nat.reduceSub, ↓reduceIte, Nat.reduceDiv, Nat.reduceMod]
    refine hM.st (by omega) (fun h3 hM3 hF3 => ?_)
    have := hQ h3 hM3 hF3
    rw [if_neg c] at this
    exact this
theorem m_pours_no {m b c k n : Nat} {s : Nat → Nat} (hM : tb_MS h m s) (hI : sp_I s) (hb : b < 5) (hc : c < 8) (hk : k < 4) (hn : n ≤ 99) (hd : 2 ≤ d) (hf : 99 < sp_on s b c + n) :
    tb_wp E d 114 0 [.ref m, .int (nI b), .int (nI c), .int (nI k), .int (nI n)] [] h nx 0 0 Q = Q (some (.int (-3))) h nx := by
  have hO := hM.O
  have j1 := hI.1 b c hb hc
  simp (disch := first | assumption | omega | exact tb_sm0 | exact tb_sm1 _ | exact tb_sm2 _ _ | exact tb_sm3 _ _ _ | exact tb_sm4 _ _ _ _ | exact Or.inl rfl | exact Or.inr rfl | fail) only [r114_0, r114_1, r114_2, r114_3, r114_6, r114_8, r114_9, r114_11, r114_14, r114_16, r114_17, r114_18, r114_21, r114_22, r114_23, r114_24, r114_27, r114_28, r114_29, r114_31, r114_32, r114_33, r114_34, r114_37, r114_39, r114_40, r114_41, r114_42, r114_43, r114_45, r114_46, r114_47, r114_48, r114_51, r114_52, r114_53, r114_54, r114_57, r114_58, m_onCell hM, tb_vl_some, tb_vl_none, tb_wF_some, nI_add, pk_mul, e_sub, e_div, tb_nmod, e_dec, e_le, e_lt, e_eq, e_eq0, e_lt0, e_0le, e_0lt, e_le0, if_true, if_false, not_true_eq_false, not_false_eq_true, ite_true, ite_false, Nat.reduceAdd, Nat.reduceMul, Nat.reduceLeDiff, Nat.reduceLT, Nat.reduceEqDiff, Nat.reduceSub, ↓reduceIte, Nat.reduceDiv, Nat.reduceMod]
  rw [if_neg (by omega)]
theorem m_pours {m b c k n : Nat} {s : Nat → Nat} (hM : tb_MS h m s) (hI : sp_I s) (hb : b < 5) (hc : c < 8) (hk : k < 4) (hn : n ≤ 99) (hd : 2 ≤ d) (hf : sp_on s b c + n ≤ 99) (hQ : ∀ h', tb_MS h' m (sp_pour s b c k n) → (∀ q, q ≠ m + 1 → h' q = h q) → Q (some (.int (nI (s (48 + 32 * b + 4 * c + k) + n)))) h' nx) :
    tb_wp E d 114 0 [.ref m, .int (nI b), .int (nI c), .int (nI k), .int (nI n)] [] h nx 0 0 Q := by
  have hO := hM.O
  have g := hM.g
  have j1 := hI.1 b c hb hc
  simp (disch := first | assumption | omega | exact tb_sm0 | exact tb_sm1 _ | exact tb_sm2 _ _ | exact tb_sm3 _ _ _ | exact tb_sm4 _ _ _ _ | exact Or.inl rfl | exact Or.inr rfl | fail) only [r114_0, r114_1, r114_2, r114_3, r114_6, r114_8, r114_9, r114_11, r114_14, r114_16, r114_17, r114_18, r114_21, r114_22, r114_23, r114_24, r114_27, r114_28, r114_29, r114_31, r114_32, r114_33, r114_34, r114_37, r114_39, r114_40, r114_41, r114_42, r114_43, r114_45, r114_46, r114_47, r114_48, r114_51, r114_52, r114_53, r114_54, r114_57, r114_58, m_onCell hM, m_heap, g, hM.ld, hf, tb_vl_some, tb_vl_none, tb_wF_some, nI_add, pk_mul, e_sub, e_div, tb_nmod, e_dec, e_le, e_lt, e_eq, e_eq0, e_lt0, e_0le, e_0lt, e_le0, if_true, if_false, not_true_eq_false, not_false_eq_true, ite_true, ite_false, Nat.reduceAdd, Nat.reduceMul, Nat.reduceLeDiff, Nat.reduceLT, Nat.reduceEqDiff, Nat.reduceSub, ↓reduceIte, Nat.reduceDiv, Nat.reduceMod]
  refine hM.st (by omega) (fun h2 hM2 hF2 => ?_)
  have g2 := hM2.g
  simp (disch := first | assumption | omega | exact tb_sm0 | exact tb_sm1 _ | exact tb_sm2 _ _ | exact tb_sm3 _ _ _ | exact tb_sm4 _ _ _ _ | exact Or.inl rfl | exact Or.inr rfl | fail) only [r114_0, r114_1, r114_2, r114_3, r114_6, r114_8, r114_9, r114_11, r114_14, r114_16, r114_17, r114_18, r114_21, r114_22, r114_23, r114_24, r114_27, r114_28, r114_29, r114_31, r114_32, r114_33, r114_34, r114_37, r114_39, r114_40, r114_41, r114_42, r114_43, r114_45, r114_46, r114_47, r114_48, r114_51, r114_52, r114_53, r114_54, r114_57, r114_58, m_heap, g2, hM2.ld, tb_vl_some, tb_vl_none, tb_wF_some, nI_add, pk_mul, e_sub, e_div, tb_nmod, e_dec, e_le, e_lt, e_eq, e_eq0, e_lt0, e_0le, e_0lt, e_le0, if_true, if_false, not_true_eq_false, not_false_eq_true, ite_true, ite_false, Nat.reduceAdd, Nat.reduceMul, Nat.reduceLeDiff, Nat.reduceLT, Nat.reduceEqDiff, Nat.reduceSub, ↓reduceIte, Nat.reduceDiv, Nat.reduceMod]
  refine hM2.st (by omega) (fun h3 hM3 hF3 => ?_)
  have g3 := hM3.g
  simp (disch := first | assumption | omega | exact tb_sm0 | exact tb_sm1 _ | exact tb_sm2 _ _ | exact tb_sm3 _ _ _ | exact tb_sm4 _ _ _ _ | exact Or.inl rfl | exact Or.inr rfl | fail) only [r114_0, r114_1, r114_2, r114_3, r114_6, r114_8, r114_9, r114_11, r114_14, r114_16, r114_17, r114_18, r114_21, r114_22, r114_23, r114_24, r114_27, r114_28, r114_29, r114_31, r114_32, r114_33, r114_34, r114_37, r114_39, r114_40, r114_41, r114_42, r114_43, r114_45, r114_46, r114_47, r114_48, r114_51, r114_52, r114_53, r114_54, r114_57, r114_58, m_heap, g3, hM3.ld, tb_vl_some, tb_vl_none, tb_wF_some, nI_add, pk_mul, e_sub, e_div, tb_nmod, e_dec, e_le, e_lt, e_eq, e_eq0, e_lt0, e_0le, e_0lt, e_le0, if_true, if_false, not_true_eq_false, not_false_eq_true, ite_true, ite_false, Nat.reduceAdd, Nat.reduceMul, Nat.reduceLeDiff, Nat.reduceLT, Nat.reduceEqDiff, Nat.reduceSub, ↓reduceIte, Nat.reduceDiv, Nat.reduceMod]
  rw [va_up_n (by omega), va_up_s]
  refine hQ h3 ?_ (fun q hq => by rw [hF3 q hq, hF2 q hq])
  unfold sp_pour
  rw [va_up_n (by omega)] at hM3
  exact hM3
theorem m_inPan {m b : Nat} {s : Nat → Nat} (hM : tb_MS h m s) (hb : b < 5) : tb_wp E d 117 0 [.ref m, .int (nI b)] [] h nx 0 0 Q = Q (some (.int (nI (sp_pan s b)))) h nx := by
  have g := hM.g
  simp (disch := first | assumption | omega | exact tb_sm0 | exact tb_sm1 _ | exact tb_sm2 _ _ | exact tb_sm3 _ _ _ | exact tb_sm4 _ _ _ _ | exact Or.inl rfl | exact Or.inr rfl | fail) only [r117_0, r117_1, r117_4, r117_6, r117_7, r117_8, r117_9, r117_10, r117_11, r117_12, r117_15, r117_17, r117_18, r117_19, r117_20, r117_21, r117_22, r117_23, r117_24, r117_25, r117_26, r117_29, r117_31, r117_32, r117_33, r117_34, r117_35, r117_36, r117_37, r117_38, r117_39, r117_40, r117_43, r117_45, r117_46, r117_47, r117_48, r117_49, r117_50, r117_51, r117_52, r117_53, g, hM.ld, tb_vl_some, tb_vl_none, tb_wF_some, nI_add, pk_mul, e_sub, e_div, tb_nmod, e_dec, e_le, e_lt, e_eq, e_eq0, e_lt0, e_0le, e_0lt, e_le0, if_true, if_false, not_true_eq_false, not_false_eq_true, ite_true, ite_false, Nat.reduceAdd, Nat.reduceMul, Nat.reduceLeDiff, Nat.reduceLT, Nat.reduceEqDiff, Nat.reduceSub, ↓reduceIte, Nat.reduceDiv, Nat.reduceMod]
  unfold sp_pan
  rfl
theorem m_jolts_l {m b : Nat} {s0 : Nat → Nat} (hI : sp_I s0) (hb : b < 5) (n : Nat) : ∀ (i : Nat) (h : tb_heap) (s : Nat → Nat), i + n = 32 → tb_MS h m s → (∀ j, s j = if 208 + 32 * b ≤ j ∧ j < 208 + 32 * b + i ∧ 0 < s0 (j - 160) then 1 else s0 j) → (∀ h', tb_MS h' m (sp_jolt s0 b) → (∀ q, q ≠ m + 1 → h' q = h q) → tb_wp E d 116 65 [.ref m, .int (nI b), .int (nI 32)] [] h' nx 0 0 Q) →
    tb_wp E d 116 2 [.ref m, .int (nI b), .int (nI i)] [] h nx 0 0 Q := by
  induction n with
  | zero =>
    intro i h s hi hM hs hQ
    simp (disch := first | assumption | omega | exact tb_sm0 | exact tb_sm1 _ | exact tb_sm2 _ _ | exact tb_sm3 _ _ _ | exact tb_sm4 _ _ _ _ | exact Or.inl rfl | exact Or.inr rfl | fail) only [r116_2, r116_3, r116_5, nI_add, pk_mul, e_sub, e_div, tb_nmod, e_dec, e_le, e_lt, e_eq, e_eq0, e_lt0, e_0le, e_0lt, e_le0, if_true, if_false, not_true_eq_false, not_false_eq_true, ite_true, ite_false, Nat.reduceAdd, Nat.reduceMul, Nat.reduceLeDiff, Nat.reduceLT, Nat.reduceEqDiff, Nat.reduceSub, ↓reduceIte, Nat.reduceDiv, Nat.reduceMod]
    rw [if_pos (by omega)]
    have e : i = 32 := by omega
    subst e
    refine hQ h (hM.to rfl rfl (fun j _ => ?_)) (fun _ _ => rfl)
    rw [hs j, show 208 + 32 * b + 32 = 240 + 32 * b by omega]
    rfl
  | succ n ih =>
    intro i h s hi hM hs hQ
    have g := hM.g
    have hj := sp_hp_le hI hb (show i < 32 by omega)
    have e1 : s (48 + 32 * b + i) = s0 (48 + 32 * b + i) := by rw [hs, if_neg (by omega)]
    have e2 : s (208 + 32 * b + i) = s0 (208 + 32 * b + i) := by rw [hs, if_neg (by omega)]
    simp (disch := first | assumption | omega | exact tb_sm0 | exact tb_sm1 _ | exact tb_sm2 _ _ | exact tb_sm3 _ _ _ | exact tb_sm4 _ _ _ _ | exact Or.inl rfl | exact Or.inr rfl | fail) only [r116_2, r116_3, r116_5, nI_add, pk_mul, e_sub, e_div, tb_nmod, e_dec, e_le, e_lt, e_eq, e_eq0, e_lt0, e_0le, e_0lt, e_le0, if_true, if_false, not_true_eq_false, not_false_eq_true, ite_true, ite_false, Nat.reduceAdd, Nat.reduceMul, Nat.reduceLeDiff, Nat.reduceLT, Nat.reduceEqDiff, Nat.reduceSub, ↓reduceIte, Nat.reduceDiv, Nat.reduceMod]
    rw [if_neg (by omega)]
    have fin : ∀ v, v = (if 0 < s0 (48 + 32 * b + i) then 1 else s0 (208 + 32 * b + i)) → tb_wF (tb_stv h 0 (m + 1) (nI (208 + 32 * b + i)) (nI v)) (fun h2 => tb_wp E d 116 2 [.ref m, .int (nI b), .int (nI (i + 1))] [] h2 nx 0 0 Q) := by
      rintro v rfl
      refine hM.st (by omega) (fun h2 hM2 hF2 => ?_)
      refine ih (i + 1) h2 _ (by omega) hM2 (fun j => ?_) (fun h3 hM3 hF3 => hQ h3 hM3 (fun q hq => by rw [hF3 q hq, hF2 q hq]))
      unfold va_up
      by_cases c : j = 208 + 32 * b + i
      · rw [if_pos c]
        subst c
        rw [show 208 + 32 * b + i - 160 = 48 + 32 * b + i by omega]
        by_cases c2 : 0 < s0 (48 + 32 * b + i)
        · rw [if_pos c2, if_pos ⟨by omega, by omega, c2⟩]
        · rw [if_neg c2, if_neg (by omega)]
      · rw [if_neg c, hs j]
        by_cases c2 : 208 + 32 * b ≤ j ∧ j < 208 + 32 * b + i ∧ 0 < s0 (j - 160)
        · rw [if_pos c2, if_pos ⟨c2.1, by omega, c2.2.2⟩]
        · rw [if_neg c2, if_neg (fun q => c2 ⟨q.1, by omega, q.2.2⟩)]
    by_cases c : 0 < s0 (48 + 32 * b + i)
    · have c' : ¬ s0 (48 + 32 * b + i) = 0 := by omega
      simp (disch := first | assumption | omega | exact tb_sm0 | exact tb_sm1 _ | exact tb_sm2 _ _ | exact tb_sm3 _ _ _ | exact tb_sm4 _ _ _ _ | exact Or.inl rfl | exact Or.inr rfl | fail) only [r116_0, r116_1, r116_3, r116_5, r116_8, r116_9, r116_12, r116_15, r116_17, r116_18, r116_19, r116_20, r116_21, r116_22, r116_23, r116_26, r116_28, r116_30, r116_31, r116_32, r116_33, r116_34, r116_35, r116_36, r116_39, r116_40, r116_43, r116_44, r116_47, r116_50, r116_52, r116_53, r116_54, r116_55, r116_56, r116_57, r116_58, r116_59, r116_62, r116_65, r116_66, r116_67, r116_70, r116_73, r116_75, r116_78, r116_79, r116_80, r116_83, g, hM.ld, e1, c', tb_vl_some, tb_vl_none, tb_wF_some, nI_add, pk_mul, e_sub, e_div, tb_nmod, e_dec, e_le, e_lt, e_eq, e_eq0, e_lt0, e_0le, e_0lt, e_le0, if_true, if_false, not_true_eq_false, not_false_eq_true, ite_true, ite_false, Nat.reduceAdd, Nat.reduceMul, Nat.reduceLeDiff, Nat.reduceLT, Nat.reduceEqDiff, Nat.reduceSub, ↓reduceIte, Nat.reduceDiv, Nat.reduceMod]
      exact fin 1 (by rw [if_pos c])
    · have c' : s0 (48 + 32 * b + i) = 0 := by omega
      simp (disch := first | assumption | omega | exact tb_sm0 | exact tb_sm1 _ | exact tb_sm2 _ _ | exact tb_sm3 _ _ _ | exact tb_sm4 _ _ _ _ | exact Or.inl rfl | exact Or.inr rfl | fail) only [r116_0, r116_1, r116_3, r116_5, r116_8, r116_9, r116_12, r116_15, r116_17, r116_18, r116_19, r116_20, r116_21, r116_22, r116_23, r116_26, r116_28, r116_30, r116_31, r116_32, r116_33, r116_34, r116_35, r116_36, r116_39, r116_40, r116_43, r116_44, r116_47, r116_50, r116_52, r116_53, r116_54, r116_55, r116_56, r116_57, r116_58, r116_59, r116_62, r116_65, r116_66, r116_67, r116_70, r116_73, r116_75, r116_78, r116_79, r116_80, r116_83, g, hM.ld, e1, e2, c', tb_vl_some, tb_vl_none, tb_wF_some, nI_add, pk_mul, e_sub, e_div, tb_nmod, e_dec, e_le, e_lt, e_eq, e_eq0, e_lt0, e_0le, e_0lt, e_le0, if_true, if_false, not_true_eq_false, not_false_eq_true, ite_true, ite_false, Nat.reduceAdd, Nat.reduceMul, Nat.reduceLeDiff, Nat.reduceLT, Nat.reduceEqDiff, Nat.reduceSub, ↓reduceIte, Nat.reduceDiv, Nat.reduceMod]
      exact fin _ (by rw [if_neg c])
theorem sp_acc_c {f g : Nat → Nat} (n : Nat) (hh : ∀ j, j < n → f j = g j) : sp_acc f n = sp_acc g n := by
  induction n with
  | zero => rfl
  | succ n ih =>
    unfold sp_acc
    rw [ih (fun j hj => hh j (by omega)), hh n (by omega)]
theorem sp_acc_le {f : Nat → Nat} {M : Nat} (n : Nat) (hh : ∀ j, j < n → f j ≤ M) : sp_acc f n ≤ n * M := by
  induction n with
  | zero => exact Nat.zero_le _
  | succ n ih =>
    unfold sp_acc
    have h1 := ih (fun j hj => hh j (by omega))
    have h2 := hh n (by omega)
    rw [Nat.succ_mul]
    omega
theorem sp_heaps_le (s : Nat → Nat) (b : Nat) : sp_heaps s b ≤ 32 := by
  have := sp_acc_le (f := fun j => if 0 < s (48 + 32 * b + j) then 1 else 0) (M := 1) 32 (fun j _ => by split <;> decide)
  exact this
theorem sp_I_jolt {s : Nat → Nat} (hI : sp_I s) {b : Nat} (hb : b < 5) : sp_I (sp_jolt s b) := by
  have low : ∀ j, j < 208 → sp_jolt s b j = s j := fun j hj => by unfold sp_jolt; rw [if_neg (by omega)]
  obtain ⟨i1, i2, i3, i4, i5⟩ := hI
  refine ⟨fun b' c' hb' hc' => ?_, ?_, fun j hj => ?_, fun j hj => ?_, fun j hj => ?_⟩
  · rw [sp_on_c (s := s) (fun k hk => low _ (by omega))]; exact i1 b' c' hb' hc'
  · rw [low 1 (by decide), low 2 (by decide), low 3 (by decide)]; exact i2
  · rw [low _ (by omega)]; exact i3 j hj
  · rw [low _ (by omega)]; exact i4 j hj
  · unfold sp_jolt
    split
    · decide
    · exact i5 j hj
theorem m_jolts {m b : Nat} {s : Nat → Nat} (hM : tb_MS h m s) (hI : sp_I s) (hb : b < 5) (hd : 1 ≤ d) (hQ : ∀ h', tb_MS h' m (sp_jolt s b) → (∀ q, q ≠ m + 1 → h' q = h q) → Q (some (.int (if sp_heaps s b = 0 then -5 else nI (sp_heaps s b)))) h' nx) :
    tb_wp E d 116 0 [.ref m, .int (nI b), .long 0] [] h nx 0 0 Q := by
  simp (disch := first | assumption | omega | exact tb_sm0 | exact tb_sm1 _ | exact tb_sm2 _ _ | exact tb_sm3 _ _ _ | exact tb_sm4 _ _ _ _ | exact Or.inl rfl | exact Or.inr rfl | fail) only [r116_0, r116_1]
  refine m_jolts_l hI hb 32 0 h s rfl hM (fun j => by rw [if_neg (by omega)]) (fun h2 hM2 hF2 => ?_)
  have hO := hM2.O
  have e : sp_acc (fun j => if 0 < sp_jolt s b (48 + 32 * b + j) then 1 else 0) 32 = sp_heaps s b := by
    unfold sp_heaps
    refine sp_acc_c 32 (fun j hj => ?_)
    rw [show sp_jolt s b (48 + 32 * b + j) = s (48 + 32 * b + j) by unfold sp_jolt; rw [if_neg (by omega)]]
  have hl := sp_heaps_le s b
  have q := hQ h2 hM2 hF2
  by_cases c : sp_heaps s b = 0
  · simp (disch := first | assumption | omega | exact tb_sm0 | exact tb_sm1 _ | exact tb_sm2 _ _ | exact tb_sm3 _ _ _ | exact tb_sm4 _ _ _ _ | exact Or.inl rfl | exact Or.inr rfl | fail) only [r116_0, r116_1, r116_3, r116_5, r116_8, r116_9, r116_12, r116_15, r116_17, r116_18, r116_19, r116_20, r116_21, r116_22, r116_23, r116_26, r116_28, r116_30, r116_31, r116_32, r116_33, r116_34, r116_35, r116_36, r116_39, r116_40, r116_43, r116_44, r116_47, r116_50, r116_52, r116_53, r116_54, r116_55, r116_56, r116_57, r116_58, r116_59, r116_62, r116_65, r116_66, r116_67, r116_70, r116_73, r116_75, r116_78, r116_79, r116_80, r116_83, m_heaps hM2 (sp_I_jolt hI hb) hb, e, c, tb_vl_some, tb_vl_none, tb_wF_some, nI_add, pk_mul, e_sub, e_div, tb_nmod, e_dec, e_le, e_lt, e_eq, e_eq0, e_lt0, e_0le, e_0lt, e_le0, if_true, if_false, not_true_eq_false, not_false_eq_true, ite_true, ite_false, Nat.reduceAdd, Nat.reduceMul, Nat.reduceLeDiff, Nat.reduceLT, Nat.reduceEqDiff, Nat.reduceSub, ↓reduceIte, Nat.reduceDiv, Nat.reduceMod]
    rw [if_pos c] at q
    exact q
  · simp (disch := first | assumption | omega | exact tb_sm0 | exact tb_sm1 _ | exact tb_sm2 _ _ | exact tb_sm3 _ _ _ | exact tb_sm4 _ _ _ _ | exact Or.inl rfl | exact Or.inr rfl | fail) only [r116_0, r116_1, r116_3, r116_5, r116_8, r116_9, r116_12, r116_15, r116_17, r116_18, r116_19, r116_20, r116_21, r116_22, r116_23, r116_26, r116_28, r116_30, r116_31, r116_32, r116_33, r116_34, r116_35, r116_36, r116_39, r116_40, r116_43, r116_44, r116_47, r116_50, r116_52, r116_53, r116_54, r116_55, r116_56, r116_57, r116_58, r116_59, r116_62, r116_65, r116_66, r116_67, r116_70, r116_73, r116_75, r116_78, r116_79, r116_80, r116_83, m_heaps hM2 (sp_I_jolt hI hb) hb, e, c, tb_vl_some, tb_vl_none, tb_wF_some, nI_add, pk_mul, e_sub, e_div, tb_nmod, e_dec, e_le, e_lt, e_eq, e_eq0, e_lt0, e_0le, e_0lt, e_le0, if_true, if_false, not_true_eq_false, not_false_eq_true, ite_true, ite_false, Nat.reduceAdd, Nat.reduceMul, Nat.reduceLeDiff, Nat.reduceLT, Nat.reduceEqDiff, Nat.reduceSub, ↓reduceIte, Nat.reduceDiv, Nat.reduceMod]
    rw [if_neg c] at q
    exact q
theorem m_empties_l {m b : Nat} {s0 : Nat → Nat} {y : Value} (hb : b < 5) (n : Nat) : ∀ (i : Nat) (h : tb_heap) (s : Nat → Nat), i + n = 4 → tb_MS h m s → (∀ j, s j = if 28 + 4 * b ≤ j ∧ j < 28 + 4 * b + i then 0 else s0 j) → (∀ h' s', tb_MS h' m s' → (∀ j, s' j = if 28 + 4 * b ≤ j ∧ j < 32 + 4 * b then 0 else s0 j) → (∀ q, q ≠ m + 1 → h' q = h q) → tb_wp E d 118 33 [.ref m, .int (nI b), y, .int (nI 4)] [] h' nx 0 0 Q) →
    tb_wp E d 118 8 [.ref m, .int (nI b), y, .int (nI i)] [] h nx 0 0 Q := by
  induction n with
  | zero =>
    intro i h s hi hM hs hQ
    simp (disch := first | assumption | omega | exact tb_sm0 | exact tb_sm1 _ | exact tb_sm2 _ _ | exact tb_sm3 _ _ _ | exact tb_sm4 _ _ _ _ | exact Or.inl rfl | exact Or.inr rfl | fail) only [r118_8, r118_9, r118_10, nI_add, pk_mul, e_sub, e_div, tb_nmod, e_dec, e_le, e_lt, e_eq, e_eq0, e_lt0, e_0le, e_0lt, e_le0, if_true, if_false, not_true_eq_false, not_false_eq_true, ite_true, ite_false, Nat.reduceAdd, Nat.reduceMul, Nat.reduceLeDiff, Nat.reduceLT, Nat.reduceEqDiff, Nat.reduceSub, ↓reduceIte, Nat.reduceDiv, Nat.reduceMod]
    rw [if_pos (by omega)]
    have e : i = 4 := by omega
    subst e
    refine hQ h s hM (fun j => ?_) (fun _ _ => rfl)
    rw [hs j, show 28 + 4 * b + 4 = 32 + 4 * b by omega]
  | succ n ih =>
    intro i h s hi hM hs hQ
    have g := hM.g
    simp (disch := first | assumption | omega | exact tb_sm0 | exact tb_sm1 _ | exact tb_sm2 _ _ | exact tb_sm3 _ _ _ | exact tb_sm4 _ _ _ _ | exact Or.inl rfl | exact Or.inr rfl | fail) only [r118_8, r118_9, r118_10, nI_add, pk_mul, e_sub, e_div, tb_nmod, e_dec, e_le, e_lt, e_eq, e_eq0, e_lt0, e_0le, e_0lt, e_le0, if_true, if_false, not_true_eq_false, not_false_eq_true, ite_true, ite_false, Nat.reduceAdd, Nat.reduceMul, Nat.reduceLeDiff, Nat.reduceLT, Nat.reduceEqDiff, Nat.reduceSub, ↓reduceIte, Nat.reduceDiv, Nat.reduceMod]
    rw [if_neg (by omega)]
    simp (disch := first | assumption | omega | exact tb_sm0 | exact tb_sm1 _ | exact tb_sm2 _ _ | exact tb_sm3 _ _ _ | exact tb_sm4 _ _ _ _ | exact Or.inl rfl | exact Or.inr rfl | fail) only [r118_0, r118_1, r118_2, r118_5, r118_6, r118_7, r118_9, r118_10, r118_13, r118_14, r118_17, r118_19, r118_20, r118_21, r118_22, r118_23, r118_24, r118_25, r118_26, r118_27, r118_30, r118_34, r118_37, r118_38, r118_39, r118_40, r118_41, r118_42, r118_43, r118_44, r118_47, r118_49, r118_52, r118_53, g, hM.ld, tb_vl_some, tb_vl_none, tb_wF_some, nI_add, pk_mul, e_sub, e_div, tb_nmod, e_dec, e_le, e_lt, e_eq, e_eq0, e_lt0, e_0le, e_0lt, e_le0, if_true, if_false, not_true_eq_false, not_false_eq_true, ite_true, ite_false, Nat.reduceAdd, Nat.reduceMul, Nat.reduceLeDiff, Nat.reduceLT, Nat.reduceEqDiff, Nat.reduceSub, ↓reduceIte, Nat.reduceDiv, Nat.reduceMod]
    refine hM.st (by omega) (fun h2 hM2 hF2 => ?_)
    refine ih (i + 1) h2 _ (by omega) hM2 (fun j => ?_) (fun h3 s3 hM3 hs3 hF3 => hQ h3 s3 hM3 hs3 (fun q hq => by rw [hF3 q hq, hF2 q hq]))
    unfold va_up
    by_cases c : j = 28 + 4 * b + i
    · rw [if_pos c, if_pos (by omega)]
    · rw [if_neg c, hs j]
      by_cases c2 : 28 + 4 * b ≤ j ∧ j < 28 + 4 * b + i
      · rw [if_pos c2, if_pos (by omega)]
      · rw [if_neg c2, if_neg (by omega)]
theorem m_empties {m b : Nat} {s : Nat → Nat} (hM : tb_MS h m s) (hb : b < 5) (hp : sp_pan s b < 2 ^ 31) (hd : 1 ≤ d) (hQ : ∀ h', tb_MS h' m (sp_empty s b) → (∀ q, q ≠ m + 1 → h' q = h q) → Q (some (.int (if sp_pan s b = 0 then -5 else nI (sp_pan s b)))) h' nx) :
    tb_wp E d 118 0 [.ref m, .int (nI b), .long 0, .long 0] [] h nx 0 0 Q := by
  have hO := hM.O
  simp (disch := first | assumption | omega | exact tb_sm0 | exact tb_sm1 _ | exact tb_sm2 _ _ | exact tb_sm3 _ _ _ | exact tb_sm4 _ _ _ _ | exact Or.inl rfl | exact Or.inr rfl | fail) only [r118_0, r118_1, r118_2, r118_5, r118_6, r118_7, r118_9, r118_10, r118_13, r118_14, r118_17, r118_19, r118_20, r118_21, r118_22, r118_23, r118_24, r118_25, r118_26, r118_27, r118_30, r118_33, r118_34, r118_37, r118_38, r118_39, r118_40, r118_41, r118_42, r118_43, r118_44, r118_47, r118_49, r118_52, r118_53, m_inPan hM, tb_vl_some, tb_vl_none, tb_wF_some]
  refine m_empties_l hb 4 0 h s rfl hM (fun j => by rw [if_neg (by omega)]) (fun h2 s2 hM2 hs2 hF2 => ?_)
  have g2 := hM2.g
  have e4 : s2 4 = s 4 := by rw [hs2, if_neg (by omega)]
  have fin : ∀ h3, tb_MS h3 m (va_up s2 4 (s 4 + sp_pan s b)) → (∀ q, q ≠ m + 1 → h3 q = h2 q) → Q (some (.int (if sp_pan s b = 0 then -5 else nI (sp_pan s b)))) h3 nx := by
    intro h3 hM3 hF3
    refine hQ h3 (hM3.to rfl rfl (fun j _ => ?_)) (fun q hq => by rw [hF3 q hq, hF2 q hq])
    unfold sp_empty va_up
    by_cases c : j = 4
    · subst c
      rw [if_pos rfl, if_neg (by omega), if_pos rfl]
    · rw [if_neg c, hs2 j, if_neg c]
  by_cases c : sp_pan s b = 0
  · rw [if_pos c] at fin
    simp (disch := first | assumption | omega | exact tb_sm0 | exact tb_sm1 _ | exact tb_sm2 _ _ | exact tb_sm3 _ _ _ | exact tb_sm4 _ _ _ _ | exact Or.inl rfl | exact Or.inr rfl | fail) only [r118_0, r118_1, r118_2, r118_5, r118_6, r118_7, r118_9, r118_10, r118_13, r118_14, r118_17, r118_19, r118_20, r118_21, r118_22, r118_23, r118_24, r118_25, r118_26, r118_27, r118_30, r118_33, r118_34, r118_37, r118_38, r118_39, r118_40, r118_41, r118_42, r118_43, r118_44, r118_47, r118_49, r118_52, r118_53, g2, hM2.ld, e4, c, tb_vl_some, tb_vl_none, tb_wF_some, nI_add, pk_mul, e_sub, e_div, tb_nmod, e_dec, e_le, e_lt, e_eq, e_eq0, e_lt0, e_0le, e_0lt, e_le0, if_true, if_false, not_true_eq_false, not_false_eq_true, ite_true, ite_false, Nat.reduceAdd, Nat.reduceMul, Nat.reduceLeDiff, Nat.reduceLT, Nat.reduceEqDiff, Nat.reduceSub, ↓reduceIte, Nat.reduceDiv, Nat.reduceMod]
    rw [c] at fin
    exact hM2.st (by omega) fin
  · rw [if_neg c] at fin
    simp (disch := first | assumption | omega | exact tb_sm0 | exact tb_sm1 _ | exact tb_sm2 _ _ | exact tb_sm3 _ _ _ | exact tb_sm4 _ _ _ _ | exact Or.inl rfl | exact Or.inr rfl | fail) only [r118_0, r118_1, r118_2, r118_5, r118_6, r118_7, r118_9, r118_10, r118_13, r118_14, r118_17, r118_19, r118_20, r118_21, r118_22, r118_23, r118_24, r118_25, r118_26, r118_27, r118_30, r118_33, r118_34, r118_37, r118_38, r118_39, r118_40, r118_41, r118_42, r118_43, r118_44, r118_47, r118_49, r118_52, r118_53, g2, hM2.ld, e4, c, tb_vl_some, tb_vl_none, tb_wF_some, nI_add, pk_mul, e_sub, e_div, tb_nmod, e_dec, e_le, e_lt, e_eq, e_eq0, e_lt0, e_0le, e_0lt, e_le0, if_true, if_false, not_true_eq_false, not_false_eq_true, ite_true, ite_false, Nat.reduceAdd, Nat.reduceMul, Nat.reduceLeDiff, Nat.reduceLT, Nat.reduceEqDiff, Nat.reduceSub, ↓reduceIte, Nat.reduceDiv, Nat.reduceMod]
    exact hM2.st (by omega) fin
theorem m_passes_l {m t : Nat} {y : Value} (ht : t ≤ 99) (hd : 5 ≤ d) (n : Nat) : ∀ (i : Nat) (h : tb_heap) (s : Nat → Nat) (F : Nat → Int32), i + n = t * 5 → tb_MS h m s → tb_isA h (m + 7) 0 32 F → sp_I s → (∀ h' F', tb_MS h' m (sp_tk i n s) → tb_isA h' (m + 7) 0 32 F' → (∀ q, q ≠ m + 1 → q ≠ m + 7 → h' q = h q) → tb_wp E d 111 27 [.ref m, .int (nI t), y, .int (nI (t * 5))] [] h' nx 0 0 Q) →
    tb_wp E d 111 7 [.ref m, .int (nI t), y, .int (nI i)] [] h nx 0 0 Q := by
  have h5 : ¬ nI 5 = 0 := by decide
  induction n with
  | zero =>
    intro i h s F hi hM hA hI hQ
    simp (disch := first | assumption | omega | exact tb_sm0 | exact tb_sm1 _ | exact tb_sm2 _ _ | exact tb_sm3 _ _ _ | exact tb_sm4 _ _ _ _ | exact Or.inl rfl | exact Or.inr rfl | fail) only [r111_7, r111_8, r111_9, r111_10, r111_11, nI_add, pk_mul, e_sub, e_div, tb_nmod, e_dec, e_le, e_lt, e_eq, e_eq0, e_lt0, e_0le, e_0lt, e_le0, if_true, if_false, not_true_eq_false, not_false_eq_true, ite_true, ite_false, Nat.reduceAdd, Nat.reduceMul, Nat.reduceLeDiff, Nat.reduceLT, Nat.reduceEqDiff, Nat.reduceSub, ↓reduceIte, Nat.reduceDiv, Nat.reduceMod]
    rw [if_pos (by omega)]
    have e : i = t * 5 := by omega
    subst e
    exact hQ h F hM hA (fun _ _ _ => rfl)
  | succ n ih =>
    intro i h s F hi hM hA hI hQ
    have hO := hM.O
    simp (disch := first | assumption | omega | exact tb_sm0 | exact tb_sm1 _ | exact tb_sm2 _ _ | exact tb_sm3 _ _ _ | exact tb_sm4 _ _ _ _ | exact Or.inl rfl | exact Or.inr rfl | fail) only [r111_7, r111_8, r111_9, r111_10, r111_11, nI_add, pk_mul, e_sub, e_div, tb_nmod, e_dec, e_le, e_lt, e_eq, e_eq0, e_lt0, e_0le, e_0lt, e_le0, if_true, if_false, not_true_eq_false, not_false_eq_true, ite_true, ite_false, Nat.reduceAdd, Nat.reduceMul, Nat.reduceLeDiff, Nat.reduceLT, Nat.reduceEqDiff, Nat.reduceSub, ↓reduceIte, Nat.reduceDiv, Nat.reduceMod]
    rw [if_neg (by omega)]
    simp (disch := first | assumption | omega | exact tb_sm0 | exact tb_sm1 _ | exact tb_sm2 _ _ | exact tb_sm3 _ _ _ | exact tb_sm4 _ _ _ _ | exact Or.inl rfl | exact Or.inr rfl | fail) only [r111_0, r111_1, r111_4, r111_5, r111_6, r111_8, r111_9, r111_10, r111_11, r111_14, r111_15, r111_16, r111_17, r111_18, r111_21, r111_24, r111_27, r111_28, r111_31, r111_32, r111_33, r111_34, r111_35, r111_36, r111_37, r111_38, r111_41, r111_42, r111_43, tb_vl_some, tb_vl_none, tb_wF_some, nI_add, pk_mul, e_sub, e_div, tb_nmod, e_dec, e_le, e_lt, e_eq, e_eq0, e_lt0, e_0le, e_0lt, e_le0, if_true, if_false, not_true_eq_false, not_false_eq_true, ite_true, ite_false, Nat.reduceAdd, Nat.reduceMul, Nat.reduceLeDiff, Nat.reduceLT, Nat.reduceEqDiff, Nat.reduceSub, ↓reduceIte, Nat.reduceDiv, Nat.reduceMod]
    refine m_tick hM hA hI (show i % 5 < 5 by omega) (by omega) (fun h2 cm hM2 hF2 => ?_)
    simp only [tb_vl_none]
    try simp (disch := first | assumption | omega | exact tb_sm0 | exact tb_sm1 _ | exact tb_sm2 _ _ | exact tb_sm3 _ _ _ | exact tb_sm4 _ _ _ _ | exact Or.inl rfl | exact Or.inr rfl | fail) only [r111_0, r111_1, r111_4, r111_5, r111_6, r111_8, r111_9, r111_10, r111_11, r111_14, r111_15, r111_16, r111_17, r111_18, r111_21, r111_24, r111_27, r111_28, r111_31, r111_32, r111_33, r111_34, r111_35, r111_36, r111_37, r111_38, r111_41, r111_42, r111_43, tb_vl_some, tb_vl_none, tb_wF_some, nI_add, pk_mul, e_sub, e_div, tb_nmod, e_dec, e_le, e_lt, e_eq, e_eq0, e_lt0, e_0le, e_0lt, e_le0, if_true, if_false, not_true_eq_false, not_false_eq_true, ite_true, ite_false, Nat.reduceAdd, Nat.reduceMul, Nat.reduceLeDiff, Nat.reduceLT, Nat.reduceEqDiff, Nat.reduceSub, ↓reduceIte, Nat.reduceDiv, Nat.reduceMod]
    exact ih (i + 1) h2 _ _ (by omega) hM2.1 hM2.2 (sp_I_tick hI (by omega)) (fun h3 F3 hM3 hA3 hF3 => hQ h3 F3 hM3 hA3 (fun q q1 q2 => by rw [hF3 q q1 q2, hF2 q q1 q2]))
theorem m_passes {m t : Nat} {s : Nat → Nat} {F : Nat → Int32} (hM : tb_MS h m s) (hA : tb_isA h (m + 7) 0 32 F) (hI : sp_I s) (ht : t ≤ 99) (hd : 5 ≤ d) (hQ : ∀ h' F', tb_MS h' m (sp_pass s t) → tb_isA h' (m + 7) 0 32 F' → (∀ q, q ≠ m + 1 → q ≠ m + 7 → h' q = h q) → Q (some (.int (nI (sp_fell (sp_pass s t)) - nI (sp_fell s)))) h' nx) :
    tb_wp E d 111 0 [.ref m, .int (nI t), .long 0, .long 0] [] h nx 0 0 Q := by
  have hO := hM.O
  simp (disch := first | assumption | omega | exact tb_sm0 | exact tb_sm1 _ | exact tb_sm2 _ _ | exact tb_sm3 _ _ _ | exact tb_sm4 _ _ _ _ | exact Or.inl rfl | exact Or.inr rfl | fail) only [r111_0, r111_1, r111_4, r111_5, r111_6, r111_8, r111_9, r111_10, r111_11, r111_14, r111_15, r111_16, r111_17, r111_18, r111_21, r111_24, r111_27, r111_28, r111_31, r111_32, r111_33, r111_34, r111_35, r111_36, r111_37, r111_38, r111_41, r111_42, r111_43, m_fell hM, tb_vl_some, tb_vl_none, tb_wF_some]
  refine m_passes_l ht hd (t * 5) 0 h s F (by omega) hM hA hI (fun h2 F2 hM2 hA2 hF2 => ?_)
  have g2 := hM2.g
  simp (disch := first | assumption | omega | exact tb_sm0 | exact tb_sm1 _ | exact tb_sm2 _ _ | exact tb_sm3 _ _ _ | exact tb_sm4 _ _ _ _ | exact Or.inl rfl | exact Or.inr rfl | fail) only [r111_0, r111_1, r111_4, r111_5, r111_6, r111_8, r111_9, r111_10, r111_11, r111_14, r111_15, r111_16, r111_17, r111_18, r111_21, r111_24, r111_27, r111_28, r111_31, r111_32, r111_33, r111_34, r111_35, r111_36, r111_37, r111_38, r111_41, r111_42, r111_43, g2, hM2.ld, nI_add, tb_vl_some, tb_vl_none, tb_wF_some]
  refine hM2.st (by omega) (fun h3 hM3 hF3 => ?_)
  have hO3 := hM3.O
  simp (disch := first | assumption | omega | exact tb_sm0 | exact tb_sm1 _ | exact tb_sm2 _ _ | exact tb_sm3 _ _ _ | exact tb_sm4 _ _ _ _ | exact Or.inl rfl | exact Or.inr rfl | fail) only [r111_0, r111_1, r111_4, r111_5, r111_6, r111_8, r111_9, r111_10, r111_11, r111_14, r111_15, r111_16, r111_17, r111_18, r111_21, r111_24, r111_27, r111_28, r111_31, r111_32, r111_33, r111_34, r111_35, r111_36, r111_37, r111_38, r111_41, r111_42, r111_43, m_fell hM3, tb_vl_some, tb_vl_none, tb_wF_some]
  exact hQ h3 F2 hM3 (hA2.to (hF3 _ (by omega)) (fun _ _ => rfl)) (fun q q1 q2 => by rw [hF3 q q1, hF2 q q1 q2])
theorem m_settles_l {m b : Nat} (hb : b < 5) (hd : 5 ≤ d) (n : Nat) : ∀ (i : Nat) (h : tb_heap) (s : Nat → Nat) (F : Nat → Int32), i + n = 300 → tb_MS h m s → tb_isA h (m + 7) 0 32 F → sp_I s → (∀ h' F', tb_MS h' m (sp_settle b n s).1 → tb_isA h' (m + 7) 0 32 F' → (∀ q, q ≠ m + 1 → q ≠ m + 7 → h' q = h q) → Q (some (.int (nI (i + (sp_settle b n s).2)))) h' nx) →
    tb_wp E d 112 2 [.ref m, .int (nI b), .int (nI 300), .int (nI i)] [] h nx 0 0 Q := by
  induction n with
  | zero =>
    intro i h s F hi hM hA hI hQ
    simp (disch := first | assumption | omega | exact tb_sm0 | exact tb_sm1 _ | exact tb_sm2 _ _ | exact tb_sm3 _ _ _ | exact tb_sm4 _ _ _ _ | exact Or.inl rfl | exact Or.inr rfl | fail) only [r112_2, r112_3, r112_4, nI_add, pk_mul, e_sub, e_div, tb_nmod, e_dec, e_le, e_lt, e_eq, e_eq0, e_lt0, e_0le, e_0lt, e_le0, if_true, if_false, not_true_eq_false, not_false_eq_true, ite_true, ite_false, Nat.reduceAdd, Nat.reduceMul, Nat.reduceLeDiff, Nat.reduceLT, Nat.reduceEqDiff, Nat.reduceSub, ↓reduceIte, Nat.reduceDiv, Nat.reduceMod]
    rw [if_pos (by omega)]
    simp (disch := first | assumption | omega | exact tb_sm0 | exact tb_sm1 _ | exact tb_sm2 _ _ | exact tb_sm3 _ _ _ | exact tb_sm4 _ _ _ _ | exact Or.inl rfl | exact Or.inr rfl | fail) only [r112_0, r112_1, r112_3, r112_4, r112_7, r112_8, r112_9, r112_12, r112_15, r112_16, r112_17, r112_20, r112_23, r112_26, r112_27, tb_vl_some, tb_vl_none, tb_wF_some]
    exact hQ h F hM hA (fun _ _ _ => rfl)
  | succ n ih =>
    intro i h s F hi hM hA hI hQ
    have hO := hM.O
    simp (disch := first | assumption | omega | exact tb_sm0 | exact tb_sm1 _ | exact tb_sm2 _ _ | exact tb_sm3 _ _ _ | exact tb_sm4 _ _ _ _ | exact Or.inl rfl | exact Or.inr rfl | fail) only [r112_2, r112_3, r112_4, nI_add, pk_mul, e_sub, e_div, tb_nmod, e_dec, e_le, e_lt, e_eq, e_eq0, e_lt0, e_0le, e_0lt, e_le0, if_true, if_false, not_true_eq_false, not_false_eq_true, ite_true, ite_false, Nat.reduceAdd, Nat.reduceMul, Nat.reduceLeDiff, Nat.reduceLT, Nat.reduceEqDiff, Nat.reduceSub, ↓reduceIte, Nat.reduceDiv, Nat.reduceMod]
    rw [if_neg (by omega)]
    cases hr : sp_rb s b with
    | true =>
      have e1 : sp_settle b (n + 1) s = (s, 0) := by rw [sp_settle, hr]; rfl
      rw [e1] at hQ
      simp (disch := first | assumption | omega | exact tb_sm0 | exact tb_sm1 _ | exact tb_sm2 _ _ | exact tb_sm3 _ _ _ | exact tb_sm4 _ _ _ _ | exact Or.inl rfl | exact Or.inr rfl | fail) only [r112_0, r112_1, r112_3, r112_4, r112_7, r112_8, r112_9, r112_12, r112_15, r112_16, r112_17, r112_20, r112_23, r112_26, r112_27, m_isAtRest_t hM hI hb (show 4 ≤ d - 1 by omega) (sp_rb_t.mp hr), tb_vl_some, tb_vl_none, tb_wF_some, nI_add, pk_mul, e_sub, e_div, tb_nmod, e_dec, e_le, e_lt, e_eq, e_eq0, e_lt0, e_0le, e_0lt, e_le0, if_true, if_false, not_true_eq_false, not_false_eq_true, ite_true, ite_false, Nat.reduceAdd, Nat.reduceMul, Nat.reduceLeDiff, Nat.reduceLT, Nat.reduceEqDiff, Nat.reduceSub, ↓reduceIte, Nat.reduceDiv, Nat.reduceMod]
      exact hQ h F hM hA (fun _ _ _ => rfl)
    | false =>
      have e1 : sp_settle b (n + 1) s = ((sp_settle b n (sp_tick s b)).1, (sp_settle b n (sp_tick s b)).2 + 1) := by rw [sp_settle, hr]; rfl
      rw [e1] at hQ
      simp (disch := first | assumption | omega | exact tb_sm0 | exact tb_sm1 _ | exact tb_sm2 _ _ | exact tb_sm3 _ _ _ | exact tb_sm4 _ _ _ _ | exact Or.inl rfl | exact Or.inr rfl | fail) only [r112_0, r112_1, r112_3, r112_4, r112_7, r112_8, r112_9, r112_12, r112_15, r112_16, r112_17, r112_20, r112_23, r112_26, r112_27, m_isAtRest_f hM hI hb (show 4 ≤ d - 1 by omega) (sp_rb_f.mp hr), tb_vl_some, tb_vl_none, tb_wF_some, nI_add, pk_mul, e_sub, e_div, tb_nmod, e_dec, e_le, e_lt, e_eq, e_eq0, e_lt0, e_0le, e_0lt, e_le0, if_true, if_false, not_true_eq_false, not_false_eq_true, ite_true, ite_false, Nat.reduceAdd, Nat.reduceMul, Nat.reduceLeDiff, Nat.reduceLT, Nat.reduceEqDiff, Nat.reduceSub, ↓reduceIte, Nat.reduceDiv, Nat.reduceMod]
      refine m_tick hM hA hI hb (by omega) (fun h2 cm hM2 hF2 => ?_)
      simp only [tb_vl_none]
      try simp (disch := first | assumption | omega | exact tb_sm0 | exact tb_sm1 _ | exact tb_sm2 _ _ | exact tb_sm3 _ _ _ | exact tb_sm4 _ _ _ _ | exact Or.inl rfl | exact Or.inr rfl | fail) only [r112_0, r112_1, r112_3, r112_4, r112_7, r112_8, r112_9, r112_12, r112_15, r112_16, r112_17, r112_20, r112_23, r112_26, r112_27, tb_vl_some, tb_vl_none, tb_wF_some, nI_add, pk_mul, e_sub, e_div, tb_nmod, e_dec, e_le, e_lt, e_eq, e_eq0, e_lt0, e_0le, e_0lt, e_le0, if_true, if_false, not_true_eq_false, not_false_eq_true, ite_true, ite_false, Nat.reduceAdd, Nat.reduceMul, Nat.reduceLeDiff, Nat.reduceLT, Nat.reduceEqDiff, Nat.reduceSub, ↓reduceIte, Nat.reduceDiv, Nat.reduceMod]
      refine ih (i + 1) h2 _ _ (by omega) hM2.1 hM2.2 (sp_I_tick hI hb) (fun h3 F3 hM3 hA3 hF3 => ?_)
      have := hQ h3 F3 hM3 hA3 (fun q q1 q2 => by rw [hF3 q q1 q2, hF2 q q1 q2])
      rwa [show i + ((sp_settle b n (sp_tick s b)).2 + 1) = i + 1 + (sp_settle b n (sp_tick s b)).2 by omega] at this
theorem m_settles {m b : Nat} {s : Nat → Nat} {F : Nat → Int32} (hM : tb_MS h m s) (hA : tb_isA h (m + 7) 0 32 F) (hI : sp_I s) (hb : b < 5) (hd : 5 ≤ d) (hQ : ∀ h' F', tb_MS h' m (sp_settle b 300 s).1 → tb_isA h' (m + 7) 0 32 F' → (∀ q, q ≠ m + 1 → q ≠ m + 7 → h' q = h q) → Q (some (.int (nI (sp_settle b 300 s).2))) h' nx) :
    tb_wp E d 112 0 [.ref m, .int (nI b), .int (nI 300), .long 0] [] h nx 0 0 Q := by
  simp (disch := first | assumption | omega | exact tb_sm0 | exact tb_sm1 _ | exact tb_sm2 _ _ | exact tb_sm3 _ _ _ | exact tb_sm4 _ _ _ _ | exact Or.inl rfl | exact Or.inr rfl | fail) only [r112_0, r112_1]
  refine m_settles_l hb hd 300 0 h s F rfl hM hA hI (fun h2 F2 hM2 hA2 hF2 => ?_)
  rw [Nat.zero_add]
  exact hQ h2 F2 hM2 hA2 hF2
end M5
