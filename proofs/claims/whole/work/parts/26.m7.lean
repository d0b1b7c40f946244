/-! THE REFERENCE: the acts -/
def sp_n (x : Int32) : Nat := x.toNatClampNeg
theorem sp_n_nI {j : Nat} (h : j < 2 ^ 31) : sp_n (nI j) = j := nI_clamp h
def sp_J (s : Nat → Nat) : Prop := s 0 ≤ 99999 ∧ ∀ b k, b < 5 → k < 4 → s (28 + 4 * b + k) ≤ 396 * s 0
theorem sp_pan_lt {s : Nat → Nat} (hJ : sp_J s) {b : Nat} (hb : b < 5) : sp_pan s b < 2 ^ 31 := by
  obtain ⟨h1, h2⟩ := hJ
  have a0 := h2 b 0 hb (by decide)
  have a1 := h2 b 1 hb (by decide)
  have a2 := h2 b 2 hb (by decide)
  have a3 := h2 b 3 hb (by decide)
  rw [Nat.add_zero] at a0
  unfold sp_pan
  omega
theorem sp_acc_0 {f : Nat → Nat} (n : Nat) (h : sp_acc f n = 0) : ∀ j, j < n → f j = 0 := by
  induction n with
  | zero => intro j hj; omega
  | succ n ih =>
    unfold sp_acc at h
    intro j hj
    by_cases c : j = n
    · rw [c]; omega
    · exact ih (by omega) j (by omega)
theorem sp_jolt_0 {s : Nat → Nat} {b : Nat} (h : sp_heaps s b = 0) : ∀ j, sp_jolt s b j = s j := by
  intro j
  unfold sp_jolt
  by_cases c : 208 + 32 * b ≤ j ∧ j < 240 + 32 * b ∧ 0 < s (j - 160)
  · have := sp_acc_0 32 h (j - (208 + 32 * b)) (by omega)
    rw [show 48 + 32 * b + (j - (208 + 32 * b)) = j - 160 by omega, if_pos c.2.2] at this
    cases this
  · rw [if_neg c]
theorem sp_empty_0 {s : Nat → Nat} {b : Nat} (h : sp_pan s b = 0) : ∀ j, sp_empty s b j = s j := by
  intro j
  unfold sp_empty
  split
  · rename_i c
    unfold sp_pan at h
    rcases (by omega : j = 28 + 4 * b ∨ j = 28 + 4 * b + 1 ∨ j = 28 + 4 * b + 2 ∨ j = 28 + 4 * b + 3) with rfl | rfl | rfl | rfl <;> omega
  · split
    · rename_i c; rw [c, h, Nat.add_zero]
    · rfl
def ac_tilt (s : Nat → Nat) (x y : Int32) : Int32 × (Nat → Nat) := if x < nI 0 ∨ nI 4 < x then (-1, s) else if y < nI 0 ∨ nI 90 < y then (-2, s) else if s (13 + sp_n x) = sp_n y then (-5, s) else (nI (s (13 + sp_n x)), va_up s (13 + sp_n x) (sp_n y))
def ac_pour (s : Nat → Nat) (x y z w : Int32) : Int32 × (Nat → Nat) := if (x < nI 0 ∨ nI 4 < x) ∨ (y < nI 0 ∨ nI 7 < y) ∨ (z < nI 0 ∨ nI 3 < z) then (-1, s) else if w < nI 1 ∨ nI 99 < w then (-2, s) else if 99 < sp_on s (sp_n x) (sp_n y) + sp_n w then (-3, s) else (nI (s (48 + 32 * sp_n x + 4 * sp_n y + sp_n z) + sp_n w), sp_pour s (sp_n x) (sp_n y) (sp_n z) (sp_n w))
def ac_jolt (s : Nat → Nat) (x : Int32) : Int32 × (Nat → Nat) := if x < nI 0 ∨ nI 4 < x then (-1, s) else if sp_heaps s (sp_n x) = 0 then (-5, s) else (nI (sp_heaps s (sp_n x)), sp_jolt s (sp_n x))
def ac_empty (s : Nat → Nat) (x : Int32) : Int32 × (Nat → Nat) := if x < nI 0 ∨ nI 4 < x then (-1, s) else if sp_pan s (sp_n x) = 0 then (-5, s) else (nI (sp_pan s (sp_n x)), sp_empty s (sp_n x))
def ac_grip (s : Nat → Nat) (x y : Int32) : Int32 × (Nat → Nat) := if x < nI 0 ∨ nI 3 < x then (-1, s) else if y < nI 0 ∨ nI 80 < y then (-2, s) else if s (5 + sp_n x) = sp_n y then (-5, s) else (nI (s (5 + sp_n x)), va_up s (5 + sp_n x) (sp_n y))
def ac_set (s : Nat → Nat) (x y : Int32) : Int32 × (Nat → Nat) := if x < nI 0 ∨ nI 2 < x then (-1, s) else if y < x ∨ (if x = nI 0 then nI 30 else nI 99) < y then (-2, s) else if s (1 + sp_n x) = sp_n y then (-5, s) else (nI (s (1 + sp_n x)), va_up s (1 + sp_n x) (sp_n y))
def ac_pass (s : Nat → Nat) (x : Int32) : Int32 × (Nat → Nat) := if x < nI 1 ∨ nI 99 < x then (-2, s) else if 99999 < s 0 + sp_n x then (-3, s) else (nI (sp_fell (sp_pass s (sp_n x))) - nI (sp_fell s), sp_pass s (sp_n x))
theorem sp_rc_neg {r : Int32} (h : r < 0) {hs : Nat → Nat → Nat} {kn : Nat} {s : Nat → Nat} : sp_rc r hs kn s = (hs, kn) := by unfold sp_rc; rw [if_pos h]
theorem e_ok {j n : Nat} (h : j ≤ n) (hn : n < 2 ^ 31) : ¬ (nI j < nI 0 ∨ nI n < nI j) := by
  rw [nI_ltI (by omega) (by omega), nI_ltI hn (by omega)]; omega
theorem e_ok1 {j n : Nat} (h1 : 1 ≤ j) (h : j ≤ n) (hn : n < 2 ^ 31) : ¬ (nI j < nI 1 ∨ nI n < nI j) := by
  rw [nI_ltI (by omega) (by omega), nI_ltI hn (by omega)]; omega
theorem tb_gd1 (x : Int32) {n : Nat} (hn : n < 2 ^ 31) : (x < nI 1 ∨ nI n < x) ∨ ∃ j, 1 ≤ j ∧ j ≤ n ∧ x = nI j := by
  by_cases h1 : x < nI 1
  · exact Or.inl (Or.inl h1)
  · by_cases h2 : nI n < x
    · exact Or.inl (Or.inr h2)
    · have h0 : ¬ x < 0 := fun q => h1 (by
        rw [Int32.lt_iff_toInt_lt] at q ⊢
        have e1 : (nI 1).toInt = 1 := nI_toInt (by decide)
        rw [Int32.toInt_zero] at q
        omega)
      obtain ⟨j, hj, rfl⟩ := nI_of (x := x) h0
      rw [nI_ltI hj (by decide)] at h1
      rw [nI_ltI hn hj] at h2
      exact Or.inr ⟨j, by omega, by omega, rfl⟩
theorem tb_out.o1 {h h' : tb_heap} {m : Nat} (hF : ∀ q, q ≠ m + 1 → h' q = h q) : tb_out h h' m (m + 9) := fun q hq => hF q (by omega)
theorem tb_out.o17 {h h' : tb_heap} {m : Nat} (hF : ∀ q, q ≠ m + 1 → q ≠ m + 7 → h' q = h q) : tb_out h h' m (m + 9) := fun q hq => hF q (by omega) (by omega)
section M7
variable {E : tb_env} {d : Nat} {h : tb_heap} {nx : Nat} {Q : Option Value → tb_heap → Nat → Prop}
variable {m kn : Nat} {s : Nat → Nat} {hs : Nat → Nat → Nat} {g : sp_G}
theorem tb_MF.to {h : tb_heap} {m kn : Nat} {s s' : Nat → Nat} {hs : Nat → Nat → Nat} {g : sp_G} (hF : tb_MF h m s hs kn g) (hh : ∀ j, j < 368 → s j = s' j) : tb_MF h m s' hs kn g := by
  obtain ⟨po, wr, sp, as, ah, cm, od, bf, ⟨a1, a2, a3⟩, hH⟩ := hF
  exact ⟨po, wr, sp, as, ah, cm, od, bf, ⟨a1, a2.to rfl (fun j hj => by rw [hh j hj]), a3⟩, hH⟩
theorem m_tilt {x y : Int32} (hF : tb_MF h m s hs kn g) (hI : sp_I s) (hd : 3 ≤ d) (hQ : ∀ h', tb_MF h' m (ac_tilt s x y).2 (sp_rc (ac_tilt s x y).1 hs kn s).1 (sp_rc (ac_tilt s x y).1 hs kn s).2 g → tb_out h h' m (m + 9) → Q (some (.int (ac_tilt s x y).1)) h' nx) :
    tb_wp E d 120 0 [.ref m, .int x, .int y] [] h nx 0 0 Q := by
  rcases tb_gd x (show 4 < 2 ^ 31 by decide) with hb | ⟨b, hb, rfl⟩
  · have e : ac_tilt s x y = (-1, s) := by unfold ac_tilt; rw [if_pos hb]
    rw [e] at hQ
    dsimp only at hQ
    rw [sp_rc_neg (show (-1 : Int32) < 0 by decide)] at hQ
    simp (disch := first | assumption | omega | exact tb_sm0 | exact tb_sm1 _ | exact tb_sm2 _ _ | exact tb_sm3 _ _ _ | exact tb_sm4 _ _ _ _ | exact Or.inl rfl | exact Or.inr rfl | fail) only [r120_0, r120_1, r120_4, r120_7, r120_8, r120_9, r120_10, r120_13, r120_14, r120_15, r120_17, r120_20, r120_23, r120_24, r120_25, r120_27, r120_28, r120_29, r120_30, r120_33, r120_36, r120_39, r120_41, m_isBoard_no hb, tb_vl_some, tb_vl_none, tb_wF_some, nI_add, pk_mul, e_sub, e_div, tb_nmod, e_dec, e_le, e_lt, e_eq, e_eq0, e_lt0, e_0le, e_0lt, e_le0, if_true, if_false, not_true_eq_false, not_false_eq_true, ite_true, ite_false, Nat.reduceAdd, Nat.reduceMul, Nat.reduceLeDiff, Nat.reduceLT, Nat.reduceEqDiff, Nat.reduceSub, ↓reduceIte, Nat.reduceDiv, Nat.reduceMod]
    exact hQ h hF tb_out.rf
  · obtain ⟨po, wr, sp, as, ah, cm, od, bf, hM, hH⟩ := hF
    have hO := hM.1.O
    simp (disch := first | assumption | omega | exact tb_sm0 | exact tb_sm1 _ | exact tb_sm2 _ _ | exact tb_sm3 _ _ _ | exact tb_sm4 _ _ _ _ | exact Or.inl rfl | exact Or.inr rfl | fail) only [r120_0, r120_1, r120_4, r120_7, r120_8, r120_9, r120_10, r120_13, r120_14, r120_15, r120_17, r120_20, r120_23, r120_24, r120_25, r120_27, r120_28, r120_29, r120_30, r120_33, r120_36, r120_39, r120_41, m_isBoard, tb_vl_some, tb_vl_none, tb_wF_some, nI_add, pk_mul, e_sub, e_div, tb_nmod, e_dec, e_le, e_lt, e_eq, e_eq0, e_lt0, e_0le, e_0lt, e_le0, if_true, if_false, not_true_eq_false, not_false_eq_true, ite_true, ite_false, Nat.reduceAdd, Nat.reduceMul, Nat.reduceLeDiff, Nat.reduceLT, Nat.reduceEqDiff, Nat.reduceSub, ↓reduceIte, Nat.reduceDiv, Nat.reduceMod]
    refine m_looks hM.1 hM.2.1 hM.2.2.2.1 (fun h2 hA2 hF2 => ?_)
    have hM2 := hM.upA hA2 hF2
    have hO2 := hM2.1.O
    have hout : tb_out h h2 m (m + 9) := fun q hq => hF2 q (by omega)
    rcases tb_gd y (show 90 < 2 ^ 31 by decide) with hc | ⟨a, ha, rfl⟩
    · have e : ac_tilt s (nI b) y = (-2, s) := by unfold ac_tilt; rw [if_neg (e_ok hb (by decide)), if_pos hc]
      rw [e] at hQ
      dsimp only at hQ
      rw [sp_rc_neg (show (-2 : Int32) < 0 by decide)] at hQ
      simp (disch := first | assumption | omega | exact tb_sm0 | exact tb_sm1 _ | exact tb_sm2 _ _ | exact tb_sm3 _ _ _ | exact tb_sm4 _ _ _ _ | exact Or.inl rfl | exact Or.inr rfl | fail) only [r120_0, r120_1, r120_4, r120_7, r120_8, r120_9, r120_10, r120_13, r120_14, r120_15, r120_17, r120_20, r120_23, r120_24, r120_25, r120_27, r120_28, r120_29, r120_30, r120_33, r120_36, r120_39, r120_41, m_in_no hc, tb_vl_some, tb_vl_none, tb_wF_some, nI_add, pk_mul, e_sub, e_div, tb_nmod, e_dec, e_le, e_lt, e_eq, e_eq0, e_lt0, e_0le, e_0lt, e_le0, if_true, if_false, not_true_eq_false, not_false_eq_true, ite_true, ite_false, Nat.reduceAdd, Nat.reduceMul, Nat.reduceLeDiff, Nat.reduceLT, Nat.reduceEqDiff, Nat.reduceSub, ↓reduceIte, Nat.reduceDiv, Nat.reduceMod]
      exact hQ h2 ⟨_, _, _, _, _, _, _, _, hM2, hH⟩ hout
    · have j1 := hI.2.2.2.1 b (by omega)
      have e : ac_tilt s (nI b) (nI a) = if s (13 + b) = a then (-5, s) else (nI (s (13 + b)), va_up s (13 + b) a) := by
        unfold ac_tilt
        rw [if_neg (e_ok hb (by decide)), if_neg (e_ok ha (by decide)), sp_n_nI (by omega), sp_n_nI (by omega)]
      rw [e] at hQ
      simp (disch := first | assumption | omega | exact tb_sm0 | exact tb_sm1 _ | exact tb_sm2 _ _ | exact tb_sm3 _ _ _ | exact tb_sm4 _ _ _ _ | exact Or.inl rfl | exact Or.inr rfl | fail) only [r120_0, r120_1, r120_4, r120_7, r120_8, r120_9, r120_10, r120_13, r120_14, r120_15, r120_17, r120_20, r120_23, r120_24, r120_25, r120_27, r120_28, r120_29, r120_30, r120_33, r120_36, r120_39, r120_41, m_in_n (Nat.zero_le a) ha (by decide), tb_vl_some, tb_vl_none, tb_wF_some, nI_add, pk_mul, e_sub, e_div, tb_nmod, e_dec, e_le, e_lt, e_eq, e_eq0, e_lt0, e_0le, e_0lt, e_le0, if_true, if_false, not_true_eq_false, not_false_eq_true, ite_true, ite_false, Nat.reduceAdd, Nat.reduceMul, Nat.reduceLeDiff, Nat.reduceLT, Nat.reduceEqDiff, Nat.reduceSub, ↓reduceIte, Nat.reduceDiv, Nat.reduceMod]
      refine m_lays hM2.S (by omega) (by omega) (by omega) (fun h3 hM3 hF3 => ?_)
      have hG3 := hM2.upS hM3 (hM2.2.2.2.2.2.2.2.1.to (hF3 _ (by omega)) (fun _ _ => rfl)) (fun q q1 _ => hF3 q q1)
      have hO3 := hG3.1.O
      by_cases c : s (13 + b) = a
      · rw [if_pos c] at hQ
        simp (disch := first | assumption | omega | exact tb_sm0 | exact tb_sm1 _ | exact tb_sm2 _ _ | exact tb_sm3 _ _ _ | exact tb_sm4 _ _ _ _ | exact Or.inl rfl | exact Or.inr rfl | fail) only [r120_0, r120_1, r120_4, r120_7, r120_8, r120_9, r120_10, r120_13, r120_14, r120_15, r120_17, r120_20, r120_23, r120_24, r120_25, r120_27, r120_28, r120_29, r120_30, r120_33, r120_36, r120_39, r120_41, c, tb_vl_some, tb_vl_none, tb_wF_some, nI_add, pk_mul, e_sub, e_div, tb_nmod, e_dec, e_le, e_lt, e_eq, e_eq0, e_lt0, e_0le, e_0lt, e_le0, if_true, if_false, not_true_eq_false, not_false_eq_true, ite_true, ite_false, Nat.reduceAdd, Nat.reduceMul, Nat.reduceLeDiff, Nat.reduceLT, Nat.reduceEqDiff, Nat.reduceSub, ↓reduceIte, Nat.reduceDiv, Nat.reduceMod]
        refine m_acted hG3 hH (by omega) (fun h4 hM4 hF4 => ?_)
        try simp (disch := first | assumption | omega | exact tb_sm0 | exact tb_sm1 _ | exact tb_sm2 _ _ | exact tb_sm3 _ _ _ | exact tb_sm4 _ _ _ _ | exact Or.inl rfl | exact Or.inr rfl | fail) only [r120_0, r120_1, r120_4, r120_7, r120_8, r120_9, r120_10, r120_13, r120_14, r120_15, r120_17, r120_20, r120_23, r120_24, r120_25, r120_27, r120_28, r120_29, r120_30, r120_33, r120_36, r120_39, r120_41, tb_vl_some, tb_vl_none, tb_wF_some]
        refine hQ h4 (hM4.to (fun j _ => ?_)) (hout.tr ((tb_out.o1 hF3).tr hF4))
        unfold va_up
        split
        · rename_i q; rw [q]; exact c.symm
        · rfl
      · rw [if_neg c] at hQ
        simp (disch := first | assumption | omega | exact tb_sm0 | exact tb_sm1 _ | exact tb_sm2 _ _ | exact tb_sm3 _ _ _ | exact tb_sm4 _ _ _ _ | exact Or.inl rfl | exact Or.inr rfl | fail) only [r120_0, r120_1, r120_4, r120_7, r120_8, r120_9, r120_10, r120_13, r120_14, r120_15, r120_17, r120_20, r120_23, r120_24, r120_25, r120_27, r120_28, r120_29, r120_30, r120_33, r120_36, r120_39, r120_41, c, tb_vl_some, tb_vl_none, tb_wF_some, nI_add, pk_mul, e_sub, e_div, tb_nmod, e_dec, e_le, e_lt, e_eq, e_eq0, e_lt0, e_0le, e_0lt, e_le0, if_true, if_false, not_true_eq_false, not_false_eq_true, ite_true, ite_false, Nat.reduceAdd, Nat.reduceMul, Nat.reduceLeDiff, Nat.reduceLT, Nat.reduceEqDiff, Nat.reduceSub, ↓reduceIte, Nat.reduceDiv, Nat.reduceMod]
        refine m_acted hG3 hH (by omega) (fun h4 hM4 hF4 => ?_)
        try simp (disch := first | assumption | omega | exact tb_sm0 | exact tb_sm1 _ | exact tb_sm2 _ _ | exact tb_sm3 _ _ _ | exact tb_sm4 _ _ _ _ | exact Or.inl rfl | exact Or.inr rfl | fail) only [r120_0, r120_1, r120_4, r120_7, r120_8, r120_9, r120_10, r120_13, r120_14, r120_15, r120_17, r120_20, r120_23, r120_24, r120_25, r120_27, r120_28, r120_29, r120_30, r120_33, r120_36, r120_39, r120_41, tb_vl_some, tb_vl_none, tb_wF_some]
        exact hQ h4 hM4 (hout.tr ((tb_out.o1 hF3).tr hF4))
theorem m_setGrip {x y : Int32} (hF : tb_MF h m s hs kn g) (hI : sp_I s) (hd : 3 ≤ d) (hQ : ∀ h', tb_MF h' m (ac_grip s x y).2 (sp_rc (ac_grip s x y).1 hs kn s).1 (sp_rc (ac_grip s x y).1 hs kn s).2 g → tb_out h h' m (m + 9) → Q (some (.int (ac_grip s x y).1)) h' nx) :
    tb_wp E d 124 0 [.ref m, .int x, .int y] [] h nx 0 0 Q := by
  rcases tb_gd x (show 3 < 2 ^ 31 by decide) with hb | ⟨b, hb, rfl⟩
  · have e : ac_grip s x y = (-1, s) := by unfold ac_grip; rw [if_pos hb]
    rw [e] at hQ
    dsimp only at hQ
    rw [sp_rc_neg (show (-1 : Int32) < 0 by decide)] at hQ
    simp (disch := first | assumption | omega | exact tb_sm0 | exact tb_sm1 _ | exact tb_sm2 _ _ | exact tb_sm3 _ _ _ | exact tb_sm4 _ _ _ _ | exact Or.inl rfl | exact Or.inr rfl | fail) only [r124_0, r124_1, r124_4, r124_7, r124_8, r124_9, r124_10, r124_13, r124_14, r124_15, r124_17, r124_20, r124_23, r124_24, r124_25, r124_26, r124_27, r124_28, r124_29, r124_32, r124_35, r124_38, r124_40, m_isKind_no hb, tb_vl_some, tb_vl_none, tb_wF_some, nI_add, pk_mul, e_sub, e_div, tb_nmod, e_dec, e_le, e_lt, e_eq, e_eq0, e_lt0, e_0le, e_0lt, e_le0, if_true, if_false, not_true_eq_false, not_false_eq_true, ite_true, ite_false, Nat.reduceAdd, Nat.reduceMul, Nat.reduceLeDiff, Nat.reduceLT, Nat.reduceEqDiff, Nat.reduceSub, ↓reduceIte, Nat.reduceDiv, Nat.reduceMod]
    exact hQ h hF tb_out.rf
  · obtain ⟨po, wr, sp, as, ah, cm, od, bf, hM, hH⟩ := hF
    have hO := hM.1.O
    simp (disch := first | assumption | omega | exact tb_sm0 | exact tb_sm1 _ | exact tb_sm2 _ _ | exact tb_sm3 _ _ _ | exact tb_sm4 _ _ _ _ | exact Or.inl rfl | exact Or.inr rfl | fail) only [r124_0, r124_1, r124_4, r124_7, r124_8, r124_9, r124_10, r124_13, r124_14, r124_15, r124_17, r124_20, r124_23, r124_24, r124_25, r124_26, r124_27, r124_28, r124_29, r124_32, r124_35, r124_38, r124_40, m_isKind, tb_vl_some, tb_vl_none, tb_wF_some, nI_add, pk_mul, e_sub, e_div, tb_nmod, e_dec, e_le, e_lt, e_eq, e_eq0, e_lt0, e_0le, e_0lt, e_le0, if_true, if_false, not_true_eq_false, not_false_eq_true, ite_true, ite_false, Nat.reduceAdd, Nat.reduceMul, Nat.reduceLeDiff, Nat.reduceLT, Nat.reduceEqDiff, Nat.reduceSub, ↓reduceIte, Nat.reduceDiv, Nat.reduceMod]
    refine m_looks hM.1 hM.2.1 hM.2.2.2.1 (fun h2 hA2 hF2 => ?_)
    have hM2 := hM.upA hA2 hF2
    have hO2 := hM2.1.O
    have hout : tb_out h h2 m (m + 9) := fun q hq => hF2 q (by omega)
    rcases tb_gd y (show 80 < 2 ^ 31 by decide) with hc | ⟨a, ha, rfl⟩
    · have e : ac_grip s (nI b) y = (-2, s) := by unfold ac_grip; rw [if_neg (e_ok hb (by decide)), if_pos hc]
      rw [e] at hQ
      dsimp only at hQ
      rw [sp_rc_neg (show (-2 : Int32) < 0 by decide)] at hQ
      simp (disch := first | assumption | omega | exact tb_sm0 | exact tb_sm1 _ | exact tb_sm2 _ _ | exact tb_sm3 _ _ _ | exact tb_sm4 _ _ _ _ | exact Or.inl rfl | exact Or.inr rfl | fail) only [r124_0, r124_1, r124_4, r124_7, r124_8, r124_9, r124_10, r124_13, r124_14, r124_15, r124_17, r124_20, r124_23, r124_24, r124_25, r124_26, r124_27, r124_28, r124_29, r124_32, r124_35, r124_38, r124_40, m_in_no hc, tb_vl_some, tb_vl_none, tb_wF_some, nI_add, pk_mul, e_sub, e_div, tb_nmod, e_dec, e_le, e_lt, e_eq, e_eq0, e_lt0, e_0le, e_0lt, e_le0, if_true, if_false, not_true_eq_false, not_false_eq_true, ite_true, ite_false, Nat.reduceAdd, Nat.reduceMul, Nat.reduceLeDiff, Nat.reduceLT, Nat.reduceEqDiff, Nat.reduceSub, ↓reduceIte, Nat.reduceDiv, Nat.reduceMod]
      exact hQ h2 ⟨_, _, _, _, _, _, _, _, hM2, hH⟩ hout
    · have j1 := hI.2.2.1 b (by omega)
      have e : ac_grip s (nI b) (nI a) = if s (5 + b) = a then (-5, s) else (nI (s (5 + b)), va_up s (5 + b) a) := by
        unfold ac_grip
        rw [if_neg (e_ok hb (by decide)), if_neg (e_ok ha (by decide)), sp_n_nI (by omega), sp_n_nI (by omega)]
      rw [e] at hQ
      simp (disch := first | assumption | omega | exact tb_sm0 | exact tb_sm1 _ | exact tb_sm2 _ _ | exact tb_sm3 _ _ _ | exact tb_sm4 _ _ _ _ | exact Or.inl rfl | exact Or.inr rfl | fail) only [r124_0, r124_1, r124_4, r124_7, r124_8, r124_9, r124_10, r124_13, r124_14, r124_15, r124_17, r124_20, r124_23, r124_24, r124_25, r124_26, r124_27, r124_28, r124_29, r124_32, r124_35, r124_38, r124_40, m_in_n (Nat.zero_le a) ha (by decide), tb_vl_some, tb_vl_none, tb_wF_some, nI_add, pk_mul, e_sub, e_div, tb_nmod, e_dec, e_le, e_lt, e_eq, e_eq0, e_lt0, e_0le, e_0lt, e_le0, if_true, if_false, not_true_eq_false, not_false_eq_true, ite_true, ite_false, Nat.reduceAdd, Nat.reduceMul, Nat.reduceLeDiff, Nat.reduceLT, Nat.reduceEqDiff, Nat.reduceSub, ↓reduceIte, Nat.reduceDiv, Nat.reduceMod]
      refine m_lays hM2.S (by omega) (by omega) (by omega) (fun h3 hM3 hF3 => ?_)
      have hG3 := hM2.upS hM3 (hM2.2.2.2.2.2.2.2.1.to (hF3 _ (by omega)) (fun _ _ => rfl)) (fun q q1 _ => hF3 q q1)
      have hO3 := hG3.1.O
      by_cases c : s (5 + b) = a
      · rw [if_pos c] at hQ
        simp (disch := first | assumption | omega | exact tb_sm0 | exact tb_sm1 _ | exact tb_sm2 _ _ | exact tb_sm3 _ _ _ | exact tb_sm4 _ _ _ _ | exact Or.inl rfl | exact Or.inr rfl | fail) only [r124_0, r124_1, r124_4, r124_7, r124_8, r124_9, r124_10, r124_13, r124_14, r124_15, r124_17, r124_20, r124_23, r124_24, r124_25, r124_26, r124_27, r124_28, r124_29, r124_32, r124_35, r124_38, r124_40, c, tb_vl_some, tb_vl_none, tb_wF_some, nI_add, pk_mul, e_sub, e_div, tb_nmod, e_dec, e_le, e_lt, e_eq, e_eq0, e_lt0, e_0le, e_0lt, e_le0, if_true, if_false, not_true_eq_false, not_false_eq_true, ite_true, ite_false, Nat.reduceAdd, Nat.reduceMul, Nat.reduceLeDiff, Nat.reduceLT, Nat.reduceEqDiff, Nat.reduceSub, ↓reduceIte, Nat.reduceDiv, Nat.reduceMod]
        refine m_acted hG3 hH (by omega) (fun h4 hM4 hF4 => ?_)
        try simp (disch := first | assumption | omega | exact tb_sm0 | exact tb_sm1 _ | exact tb_sm2 _ _ | exact tb_sm3 _ _ _ | exact tb_sm4 _ _ _ _ | exact Or.inl rfl | exact Or.inr rfl | fail) only [r124_0, r124_1, r124_4, r124_7, r124_8, r124_9, r124_10, r124_13, r124_14, r124_15, r124_17, r124_20, r124_23, r124_24, r124_25, r124_26, r124_27, r124_28, r124_29, r124_32, r124_35, r124_38, r124_40, tb_vl_some, tb_vl_none, tb_wF_some]
        refine hQ h4 (hM4.to (fun j _ => ?_)) (hout.tr ((tb_out.o1 hF3).tr hF4))
        unfold va_up
        split
        · rename_i q; rw [q]; exact c.symm
        · rfl
      · rw [if_neg c] at hQ
        simp (disch := first | assumption | omega | exact tb_sm0 | exact tb_sm1 _ | exact tb_sm2 _ _ | exact tb_sm3 _ _ _ | exact tb_sm4 _ _ _ _ | exact Or.inl rfl | exact Or.inr rfl | fail) only [r124_0, r124_1, r124_4, r124_7, r124_8, r124_9, r124_10, r124_13, r124_14, r124_15, r124_17, r124_20, r124_23, r124_24, r124_25, r124_26, r124_27, r124_28, r124_29, r124_32, r124_35, r124_38, r124_40, c, tb_vl_some, tb_vl_none, tb_wF_some, nI_add, pk_mul, e_sub, e_div, tb_nmod, e_dec, e_le, e_lt, e_eq, e_eq0, e_lt0, e_0le, e_0lt, e_le0, if_true, if_false, not_true_eq_false, not_false_eq_true, ite_true, ite_false, Nat.reduceAdd, Nat.reduceMul, Nat.reduceLeDiff, Nat.reduceLT, Nat.reduceEqDiff, Nat.reduceSub, ↓reduceIte, Nat.reduceDiv, Nat.reduceMod]
        refine m_acted hG3 hH (by omega) (fun h4 hM4 hF4 => ?_)
        try simp (disch := first | assumption | omega | exact tb_sm0 | exact tb_sm1 _ | exact tb_sm2 _ _ | exact tb_sm3 _ _ _ | exact tb_sm4 _ _ _ _ | exact Or.inl rfl | exact Or.inr rfl | fail) only [r124_0, r124_1, r124_4, r124_7, r124_8, r124_9, r124_10, r124_13, r124_14, r124_15, r124_17, r124_20, r124_23, r124_24, r124_25, r124_26, r124_27, r124_28, r124_29, r124_32, r124_35, r124_38, r124_40, tb_vl_some, tb_vl_none, tb_wF_some]
        exact hQ h4 hM4 (hout.tr ((tb_out.o1 hF3).tr hF4))
theorem m_set {x y : Int32} (hF : tb_MF h m s hs kn g) (hI : sp_I s) (hd : 3 ≤ d) (hQ : ∀ h', tb_MF h' m (ac_set s x y).2 (sp_rc (ac_set s x y).1 hs kn s).1 (sp_rc (ac_set s x y).1 hs kn s).2 g → tb_out h h' m (m + 9) → Q (some (.int (ac_set s x y).1)) h' nx) :
    tb_wp E d 125 0 [.ref m, .int x, .int y] [] h nx 0 0 Q := by
  rcases tb_gd x (show 2 < 2 ^ 31 by decide) with hb | ⟨b, hb, rfl⟩
  · have e : ac_set s x y = (-1, s) := by unfold ac_set; rw [if_pos hb]
    rw [e] at hQ
    dsimp only at hQ
    rw [sp_rc_neg (show (-1 : Int32) < 0 by decide)] at hQ
    simp (disch := first | assumption | omega | exact tb_sm0 | exact tb_sm1 _ | exact tb_sm2 _ _ | exact tb_sm3 _ _ _ | exact tb_sm4 _ _ _ _ | exact Or.inl rfl | exact Or.inr rfl | fail) only [r125_0, r125_1, r125_2, r125_3, r125_6, r125_9, r125_10, r125_11, r125_12, r125_15, r125_16, r125_17, r125_18, r125_21, r125_23, r125_26, r125_28, r125_31, r125_34, r125_35, r125_36, r125_37, r125_38, r125_39, r125_40, r125_43, r125_46, r125_49, r125_51, m_in_no hb, tb_vl_some, tb_vl_none, tb_wF_some, nI_add, pk_mul, e_sub, e_div, tb_nmod, e_dec, e_le, e_lt, e_eq, e_eq0, e_lt0, e_0le, e_0lt, e_le0, if_true, if_false, not_true_eq_false, not_false_eq_true, ite_true, ite_false, Nat.reduceAdd, Nat.reduceMul, Nat.reduceLeDiff, Nat.reduceLT, Nat.reduceEqDiff, Nat.reduceSub, ↓reduceIte, Nat.reduceDiv, Nat.reduceMod]
    exact hQ h hF tb_out.rf
  · obtain ⟨po, wr, sp, as, ah, cm, od, bf, hM, hH⟩ := hF
    have hO := hM.1.O
    simp (disch := first | assumption | omega | exact tb_sm0 | exact tb_sm1 _ | exact tb_sm2 _ _ | exact tb_sm3 _ _ _ | exact tb_sm4 _ _ _ _ | exact Or.inl rfl | exact Or.inr rfl | fail) only [r125_0, r125_1, r125_2, r125_3, r125_6, r125_9, r125_10, r125_12, r125_15, r125_16, r125_17, r125_18, r125_21, r125_23, r125_26, r125_28, r125_31, r125_34, r125_35, r125_36, r125_37, r125_38, r125_39, r125_40, r125_43, r125_46, r125_49, r125_51, m_in_n (Nat.zero_le b) hb (by decide), tb_vl_some, tb_vl_none, tb_wF_some, nI_add, pk_mul, e_sub, e_div, tb_nmod, e_dec, e_le, e_lt, e_eq, e_eq0, e_lt0, e_0le, e_0lt, e_le0, if_true, if_false, not_true_eq_false, not_false_eq_true, ite_true, ite_false, Nat.reduceAdd, Nat.reduceMul, Nat.reduceLeDiff, Nat.reduceLT, Nat.reduceEqDiff, Nat.reduceSub, ↓reduceIte, Nat.reduceDiv, Nat.reduceMod]
    simp (disch := first | assumption | omega | exact tb_sm0 | exact tb_sm1 _ | exact tb_sm2 _ _ | exact tb_sm3 _ _ _ | exact tb_sm4 _ _ _ _ | exact Or.inl rfl | exact Or.inr rfl | fail) only [r125_11, r125_12]
    refine m_looks hM.1 hM.2.1 hM.2.2.2.1 (fun h2 hA2 hF2 => ?_)
    have hM2 := hM.upA hA2 hF2
    have hO2 := hM2.1.O
    have hout : tb_out h h2 m (m + 9) := fun q hq => hF2 q (by omega)
    have hb31 : b < 2 ^ 31 := by omega
    have key : ∀ t, t = (if b = 0 then 30 else 99) → tb_wp E d 125 28 [.ref m, .int (nI b), .int y] [.int (nI t), .int (nI b), .int y] h2 nx 0 0 Q := by
      intro t ht
      have et : (if nI b = nI 0 then nI 30 else nI 99) = nI t := by
        rw [ht]
        by_cases c0 : b = 0
        · rw [if_pos c0, if_pos (by rw [c0])]
        · rw [if_neg c0, if_neg (by rw [nI_eq hb31 (by decide)]; exact c0)]
      have ht99 : t ≤ 99 := by rw [ht]; split <;> decide
      by_cases hc : y < nI b ∨ nI t < y
      · have e : ac_set s (nI b) y = (-2, s) := by
          unfold ac_set
          rw [if_neg (e_ok hb (by decide)), et, if_pos hc]
        rw [e] at hQ
        dsimp only at hQ
        rw [sp_rc_neg (show (-2 : Int32) < 0 by decide)] at hQ
        simp (disch := first | assumption | omega | exact tb_sm0 | exact tb_sm1 _ | exact tb_sm2 _ _ | exact tb_sm3 _ _ _ | exact tb_sm4 _ _ _ _ | exact Or.inl rfl | exact Or.inr rfl | fail) only [r125_0, r125_1, r125_2, r125_3, r125_6, r125_9, r125_10, r125_11, r125_12, r125_15, r125_16, r125_17, r125_18, r125_21, r125_23, r125_26, r125_28, r125_31, r125_34, r125_35, r125_36, r125_37, r125_38, r125_39, r125_40, r125_43, r125_46, r125_49, r125_51, m_in_no hc, tb_vl_some, tb_vl_none, tb_wF_some, nI_add, pk_mul, e_sub, e_div, tb_nmod, e_dec, e_le, e_lt, e_eq, e_eq0, e_lt0, e_0le, e_0lt, e_le0, if_true, if_false, not_true_eq_false, not_false_eq_true, ite_true, ite_false, Nat.reduceAdd, Nat.reduceMul, Nat.reduceLeDiff, Nat.reduceLT, Nat.reduceEqDiff, Nat.reduceSub, ↓reduceIte, Nat.reduceDiv, Nat.reduceMod]
        exact hQ h2 ⟨_, _, _, _, _, _, _, _, hM2, hH⟩ hout
      · have hy0 : ¬ y < 0 := fun q => hc (Or.inl (by
          rw [Int32.lt_iff_toInt_lt] at q ⊢
          have e1 : (nI b).toInt = b := nI_toInt hb31
          rw [Int32.toInt_zero] at q
          omega))
        obtain ⟨a, ha31, rfl⟩ := nI_of (x := y) hy0
        have hab : b ≤ a ∧ a ≤ t := by
          rw [nI_ltI ha31 hb31, nI_ltI (by omega) ha31] at hc
          omega
        have j1 := hI.2.1
        have j2 : s (1 + b) ≤ 99 := by rcases (by omega : b = 0 ∨ b = 1 ∨ b = 2) with rfl | rfl | rfl <;> simp only [Nat.reduceAdd] <;> omega
        have e : ac_set s (nI b) (nI a) = if s (1 + b) = a then (-5, s) else (nI (s (1 + b)), va_up s (1 + b) a) := by
          unfold ac_set
          rw [if_neg (e_ok hb (by decide)), et, if_neg hc, sp_n_nI (by omega), sp_n_nI (by omega)]
        rw [e] at hQ
        simp (disch := first | assumption | omega | exact tb_sm0 | exact tb_sm1 _ | exact tb_sm2 _ _ | exact tb_sm3 _ _ _ | exact tb_sm4 _ _ _ _ | exact Or.inl rfl | exact Or.inr rfl | fail) only [r125_0, r125_1, r125_2, r125_3, r125_6, r125_9, r125_10, r125_11, r125_12, r125_15, r125_16, r125_17, r125_18, r125_21, r125_23, r125_26, r125_28, r125_31, r125_34, r125_35, r125_36, r125_37, r125_38, r125_39, r125_40, r125_43, r125_46, r125_49, r125_51, m_in_n hab.1 hab.2 (show t < 2 ^ 31 by omega), tb_vl_some, tb_vl_none, tb_wF_some, nI_add, pk_mul, e_sub, e_div, tb_nmod, e_dec, e_le, e_lt, e_eq, e_eq0, e_lt0, e_0le, e_0lt, e_le0, if_true, if_false, not_true_eq_false, not_false_eq_true, ite_true, ite_false, Nat.reduceAdd, Nat.reduceMul, Nat.reduceLeDiff, Nat.reduceLT, Nat.reduceEqDiff, Nat.reduceSub, ↓reduceIte, Nat.reduceDiv, Nat.reduceMod]
        refine m_lays hM2.S (by omega) (by omega) (by omega) (fun h3 hM3 hF3 => ?_)
        have hG3 := hM2.upS hM3 (hM2.2.2.2.2.2.2.2.1.to (hF3 _ (by omega)) (fun _ _ => rfl)) (fun q q1 _ => hF3 q q1)
        have hO3 := hG3.1.O
        by_cases c : s (1 + b) = a
        · rw [if_pos c] at hQ
          simp (disch := first | assumption | omega | exact tb_sm0 | exact tb_sm1 _ | exact tb_sm2 _ _ | exact tb_sm3 _ _ _ | exact tb_sm4 _ _ _ _ | exact Or.inl rfl | exact Or.inr rfl | fail) only [r125_0, r125_1, r125_2, r125_3, r125_6, r125_9, r125_10, r125_11, r125_12, r125_15, r125_16, r125_17, r125_18, r125_21, r125_23, r125_26, r125_28, r125_31, r125_34, r125_35, r125_36, r125_37, r125_38, r125_39, r125_40, r125_43, r125_46, r125_49, r125_51, c, tb_vl_some, tb_vl_none, tb_wF_some, nI_add, pk_mul, e_sub, e_div, tb_nmod, e_dec, e_le, e_lt, e_eq, e_eq0, e_lt0, e_0le, e_0lt, e_le0, if_true, if_false, not_true_eq_false, not_false_eq_true, ite_true, ite_false, Nat.reduceAdd, Nat.reduceMul, Nat.reduceLeDiff, Nat.reduceLT, Nat.reduceEqDiff, Nat.reduceSub, ↓reduceIte, Nat.reduceDiv, Nat.reduceMod]
          refine m_acted hG3 hH (by omega) (fun h4 hM4 hF4 => ?_)
          try simp (disch := first | assumption | omega | exact tb_sm0 | exact tb_sm1 _ | exact tb_sm2 _ _ | exact tb_sm3 _ _ _ | exact tb_sm4 _ _ _ _ | exact Or.inl rfl | exact Or.inr rfl | fail) only [r125_0, r125_1, r125_2, r125_3, r125_6, r125_9, r125_10, r125_11, r125_12, r125_15, r125_16, r125_17, r125_18, r125_21, r125_23, r125_26, r125_28, r125_31, r125_34, r125_35, r125_36, r125_37, r125_38, r125_39, r125_40, r125_43, r125_46, r125_49, r125_51, tb_vl_some, tb_vl_none, tb_wF_some]
          refine hQ h4 (hM4.to (fun j _ => ?_)) (hout.tr ((tb_out.o1 hF3).tr hF4))
          unfold va_up
          split
          · rename_i q; rw [q]; exact c.symm
          · rfl
        · rw [if_neg c] at hQ
          simp (disch := first | assumption | omega | exact tb_sm0 | exact tb_sm1 _ | exact tb_sm2 _ _ | exact tb_sm3 _ _ _ | exact tb_sm4 _ _ _ _ | exact Or.inl rfl | exact Or.inr rfl | fail) only [r125_0, r125_1, r125_2, r125_3, r125_6, r125_9, r125_10, r125_11, r125_12, r125_15, r125_16, r125_17, r125_18, r125_21, r125_23, r125_26, r125_28, r125_31, r125_34, r125_35, r125_36, r125_37, r125_38, r125_39, r125_40, r125_43, r125_46, r125_49, r125_51, c, tb_vl_some, tb_vl_none, tb_wF_some, nI_add, pk_mul, e_sub, e_div, tb_nmod, e_dec, e_le, e_lt, e_eq, e_eq0, e_lt0, e_0le, e_0lt, e_le0, if_true, if_false, not_true_eq_false, not_false_eq_true, ite_true, ite_false, Nat.reduceAdd, Nat.reduceMul, Nat.reduceLeDiff, Nat.reduceLT, Nat.reduceEqDiff, Nat.reduceSub, ↓reduceIte, Nat.reduceDiv, Nat.reduceMod]
          refine m_acted hG3 hH (by omega) (fun h4 hM4 hF4 => ?_)
          try simp (disch := first | assumption | omega | exact tb_sm0 | exact tb_sm1 _ | exact tb_sm2 _ _ | exact tb_sm3 _ _ _ | exact tb_sm4 _ _ _ _ | exact Or.inl rfl | exact Or.inr rfl | fail) only [r125_0, r125_1, r125_2, r125_3, r125_6, r125_9, r125_10, r125_11, r125_12, r125_15, r125_16, r125_17, r125_18, r125_21, r125_23, r125_26, r125_28, r125_31, r125_34, r125_35, r125_36, r125_37, r125_38, r125_39, r125_40, r125_43, r125_46, r125_49, r125_51, tb_vl_some, tb_vl_none, tb_wF_some]
          exact hQ h4 hM4 (hout.tr ((tb_out.o1 hF3).tr hF4))
    by_cases c0 : b = 0
    · have k30 := key 30 (by rw [if_pos c0])
      simp (disch := first | assumption | omega | exact tb_sm0 | exact tb_sm1 _ | exact tb_sm2 _ _ | exact tb_sm3 _ _ _ | exact tb_sm4 _ _ _ _ | exact Or.inl rfl | exact Or.inr rfl | fail) only [r125_0, r125_1, r125_2, r125_3, r125_6, r125_9, r125_10, r125_11, r125_12, r125_15, r125_16, r125_17, r125_18, r125_21, r125_23, r125_26, r125_31, r125_34, r125_35, r125_36, r125_37, r125_38, r125_39, r125_40, r125_43, r125_46, r125_49, r125_51, eq_true c0, tb_vl_some, tb_vl_none, tb_wF_some, nI_add, pk_mul, e_sub, e_div, tb_nmod, e_dec, e_le, e_lt, e_eq, e_eq0, e_lt0, e_0le, e_0lt, e_le0, if_true, if_false, not_true_eq_false, not_false_eq_true, ite_true, ite_false, Nat.reduceAdd, Nat.reduceMul, Nat.reduceLeDiff, Nat.reduceLT, Nat.reduceEqDiff, Nat.reduceSub, ↓reduceIte, Nat.reduceDiv, Nat.reduceMod]
      exact k30
    · have k99 := key 99 (by rw [if_neg c0])
      simp (disch := first | assumption | omega | exact tb_sm0 | exact tb_sm1 _ | exact tb_sm2 _ _ | exact tb_sm3 _ _ _ | exact tb_sm4 _ _ _ _ | exact Or.inl rfl | exact Or.inr rfl | fail) only [r125_0, r125_1, r125_2, r125_3, r125_6, r125_9, r125_10, r125_11, r125_12, r125_15, r125_16, r125_17, r125_18, r125_21, r125_23, r125_26, r125_31, r125_34, r125_35, r125_36, r125_37, r125_38, r125_39, r125_40, r125_43, r125_46, r125_49, r125_51, c0, tb_vl_some, tb_vl_none, tb_wF_some, nI_add, pk_mul, e_sub, e_div, tb_nmod, e_dec, e_le, e_lt, e_eq, e_eq0, e_lt0, e_0le, e_0lt, e_le0, if_true, if_false, not_true_eq_false, not_false_eq_true, ite_true, ite_false, Nat.reduceAdd, Nat.reduceMul, Nat.reduceLeDiff, Nat.reduceLT, Nat.reduceEqDiff, Nat.reduceSub, ↓reduceIte, Nat.reduceDiv, Nat.reduceMod]
      exact k99
theorem m_pour {x y z w : Int32} (hF : tb_MF h m s hs kn g) (hI : sp_I s) (hd : 3 ≤ d) (hQ : ∀ h', tb_MF h' m (ac_pour s x y z w).2 (sp_rc (ac_pour s x y z w).1 hs kn s).1 (sp_rc (ac_pour s x y z w).1 hs kn s).2 g → tb_out h h' m (m + 9) → Q (some (.int (ac_pour s x y z w).1)) h' nx) :
    tb_wp E d 121 0 [.ref m, .int x, .int y, .int z, .int w] [] h nx 0 0 Q := by
  by_cases hp : (x < nI 0 ∨ nI 4 < x) ∨ (y < nI 0 ∨ nI 7 < y) ∨ (z < nI 0 ∨ nI 3 < z)
  · have e : ac_pour s x y z w = (-1, s) := by unfold ac_pour; rw [if_pos hp]
    rw [e] at hQ
    dsimp only at hQ
    rw [sp_rc_neg (show (-1 : Int32) < 0 by decide)] at hQ
    simp (disch := first | assumption | omega | exact tb_sm0 | exact tb_sm1 _ | exact tb_sm2 _ _ | exact tb_sm3 _ _ _ | exact tb_sm4 _ _ _ _ | exact Or.inl rfl | exact Or.inr rfl | fail) only [r121_0, r121_1, r121_2, r121_3, r121_6, r121_9, r121_10, r121_11, r121_12, r121_15, r121_17, r121_18, r121_20, r121_23, r121_26, r121_27, r121_28, r121_29, r121_30, r121_31, r121_33, r121_36, r121_39, r121_42, r121_44, m_isPlace_no hp, tb_vl_some, tb_vl_none, tb_wF_some, nI_add, pk_mul, e_sub, e_div, tb_nmod, e_dec, e_le, e_lt, e_eq, e_eq0, e_lt0, e_0le, e_0lt, e_le0, if_true, if_false, not_true_eq_false, not_false_eq_true, ite_true, ite_false, Nat.reduceAdd, Nat.reduceMul, Nat.reduceLeDiff, Nat.reduceLT, Nat.reduceEqDiff, Nat.reduceSub, ↓reduceIte, Nat.reduceDiv, Nat.reduceMod]
    exact hQ h hF tb_out.rf
  · have hpx : ¬ tb_bad x 4 := fun q => hp (Or.inl q)
    have hpy : ¬ tb_bad y 7 := fun q => hp (Or.inr (Or.inl q))
    have hpz : ¬ tb_bad z 3 := fun q => hp (Or.inr (Or.inr q))
    obtain ⟨b, hb, rfl⟩ := (tb_gd x (show 4 < 2 ^ 31 by decide)).resolve_left hpx
    obtain ⟨c, hc, rfl⟩ := (tb_gd y (show 7 < 2 ^ 31 by decide)).resolve_left hpy
    obtain ⟨k, hk, rfl⟩ := (tb_gd z (show 3 < 2 ^ 31 by decide)).resolve_left hpz
    obtain ⟨po, wr, sp, as, ah, cm, od, bf, hM, hH⟩ := hF
    have hO := hM.1.O
    simp (disch := first | assumption | omega | exact tb_sm0 | exact tb_sm1 _ | exact tb_sm2 _ _ | exact tb_sm3 _ _ _ | exact tb_sm4 _ _ _ _ | exact Or.inl rfl | exact Or.inr rfl | fail) only [r121_0, r121_1, r121_2, r121_3, r121_6, r121_9, r121_10, r121_12, r121_15, r121_17, r121_18, r121_20, r121_23, r121_26, r121_27, r121_28, r121_29, r121_30, r121_31, r121_33, r121_36, r121_39, r121_42, r121_44, m_isPlace (show b < 5 by omega) (show c < 8 by omega) (show k < 4 by omega), tb_vl_some, tb_vl_none, tb_wF_some, nI_add, pk_mul, e_sub, e_div, tb_nmod, e_dec, e_le, e_lt, e_eq, e_eq0, e_lt0, e_0le, e_0lt, e_le0, if_true, if_false, not_true_eq_false, not_false_eq_true, ite_true, ite_false, Nat.reduceAdd, Nat.reduceMul, Nat.reduceLeDiff, Nat.reduceLT, Nat.reduceEqDiff, Nat.reduceSub, ↓reduceIte, Nat.reduceDiv, Nat.reduceMod]
    simp (disch := first | assumption | omega | exact tb_sm0 | exact tb_sm1 _ | exact tb_sm2 _ _ | exact tb_sm3 _ _ _ | exact tb_sm4 _ _ _ _ | exact Or.inl rfl | exact Or.inr rfl | fail) only [r121_11, r121_12]
    refine m_looks hM.1 hM.2.1 hM.2.2.2.1 (fun h2 hA2 hF2 => ?_)
    have hM2 := hM.upA hA2 hF2
    have hO2 := hM2.1.O
    have hout : tb_out h h2 m (m + 9) := fun q hq => hF2 q (by omega)
    rcases tb_gd1 w (show 99 < 2 ^ 31 by decide) with hw | ⟨n, hn1, hn, rfl⟩
    · have e : ac_pour s (nI b) (nI c) (nI k) w = (-2, s) := by unfold ac_pour; rw [if_neg hp, if_pos hw]
      rw [e] at hQ
      dsimp only at hQ
      rw [sp_rc_neg (show (-2 : Int32) < 0 by decide)] at hQ
      simp (disch := first | assumption | omega | exact tb_sm0 | exact tb_sm1 _ | exact tb_sm2 _ _ | exact tb_sm3 _ _ _ | exact tb_sm4 _ _ _ _ | exact Or.inl rfl | exact Or.inr rfl | fail) only [r121_0, r121_1, r121_2, r121_3, r121_6, r121_9, r121_10, r121_11, r121_12, r121_15, r121_17, r121_18, r121_20, r121_23, r121_26, r121_27, r121_28, r121_29, r121_30, r121_31, r121_33, r121_36, r121_39, r121_42, r121_44, m_in_no hw, tb_vl_some, tb_vl_none, tb_wF_some, nI_add, pk_mul, e_sub, e_div, tb_nmod, e_dec, e_le, e_lt, e_eq, e_eq0, e_lt0, e_0le, e_0lt, e_le0, if_true, if_false, not_true_eq_false, not_false_eq_true, ite_true, ite_false, Nat.reduceAdd, Nat.reduceMul, Nat.reduceLeDiff, Nat.reduceLT, Nat.reduceEqDiff, Nat.reduceSub, ↓reduceIte, Nat.reduceDiv, Nat.reduceMod]
      exact hQ h2 ⟨_, _, _, _, _, _, _, _, hM2, hH⟩ hout
    · have e : ac_pour s (nI b) (nI c) (nI k) (nI n) = if 99 < sp_on s b c + n then (-3, s) else (nI (s (48 + 32 * b + 4 * c + k) + n), sp_pour s b c k n) := by
        unfold ac_pour
        rw [if_neg hp, if_neg (e_ok1 hn1 hn (by decide)), sp_n_nI (by omega), sp_n_nI (by omega), sp_n_nI (by omega), sp_n_nI (by omega)]
      rw [e] at hQ
      by_cases hf : 99 < sp_on s b c + n
      · rw [if_pos hf] at hQ
        simp (disch := first | assumption | omega | exact tb_sm0 | exact tb_sm1 _ | exact tb_sm2 _ _ | exact tb_sm3 _ _ _ | exact tb_sm4 _ _ _ _ | exact Or.inl rfl | exact Or.inr rfl | fail) only [r121_0, r121_1, r121_2, r121_3, r121_6, r121_9, r121_10, r121_11, r121_12, r121_15, r121_17, r121_18, r121_20, r121_23, r121_26, r121_27, r121_28, r121_29, r121_30, r121_31, r121_33, r121_36, r121_39, r121_42, r121_44, m_in_n hn1 hn (by decide), m_pours_no hM2.S hI (show b < 5 by omega) (show c < 8 by omega) (show k < 4 by omega) hn (show 2 ≤ d - 1 by omega) hf, tb_vl_some, tb_vl_none, tb_wF_some, nI_add, pk_mul, e_sub, e_div, tb_nmod, e_dec, e_le, e_lt, e_eq, e_eq0, e_lt0, e_0le, e_0lt, e_le0, if_true, if_false, not_true_eq_false, not_false_eq_true, ite_true, ite_false, Nat.reduceAdd, Nat.reduceMul, Nat.reduceLeDiff, Nat.reduceLT, Nat.reduceEqDiff, Nat.reduceSub, ↓reduceIte, Nat.reduceDiv, Nat.reduceMod]
        refine m_acted hM2 hH (by omega) (fun h4 hM4 hF4 => ?_)
        try simp (disch := first | assumption | omega | exact tb_sm0 | exact tb_sm1 _ | exact tb_sm2 _ _ | exact tb_sm3 _ _ _ | exact tb_sm4 _ _ _ _ | exact Or.inl rfl | exact Or.inr rfl | fail) only [r121_0, r121_1, r121_2, r121_3, r121_6, r121_9, r121_10, r121_11, r121_12, r121_15, r121_17, r121_18, r121_20, r121_23, r121_26, r121_27, r121_28, r121_29, r121_30, r121_31, r121_33, r121_36, r121_39, r121_42, r121_44, tb_vl_some, tb_vl_none, tb_wF_some]
        exact hQ h4 hM4 (hout.tr hF4)
      · rw [if_neg hf] at hQ
        simp (disch := first | assumption | omega | exact tb_sm0 | exact tb_sm1 _ | exact tb_sm2 _ _ | exact tb_sm3 _ _ _ | exact tb_sm4 _ _ _ _ | exact Or.inl rfl | exact Or.inr rfl | fail) only [r121_0, r121_1, r121_2, r121_3, r121_6, r121_9, r121_10, r121_11, r121_12, r121_15, r121_17, r121_18, r121_20, r121_23, r121_26, r121_27, r121_28, r121_29, r121_30, r121_31, r121_33, r121_36, r121_39, r121_42, r121_44, m_in_n hn1 hn (by decide), tb_vl_some, tb_vl_none, tb_wF_some, nI_add, pk_mul, e_sub, e_div, tb_nmod, e_dec, e_le, e_lt, e_eq, e_eq0, e_lt0, e_0le, e_0lt, e_le0, if_true, if_false, not_true_eq_false, not_false_eq_true, ite_true, ite_false, Nat.reduceAdd, Nat.reduceMul, Nat.reduceLeDiff, Nat.reduceLT, Nat.reduceEqDiff, Nat.reduceSub, ↓reduceIte, Nat.reduceDiv, Nat.reduceMod]
        refine m_pours hM2.S hI (by omega) (by omega) (by omega) hn (by omega) (by omega) (fun h3 hM3 hF3 => ?_)
        have hG3 := hM2.upS hM3 (hM2.2.2.2.2.2.2.2.1.to (hF3 _ (by omega)) (fun _ _ => rfl)) (fun q q1 _ => hF3 q q1)
        have hO3 := hG3.1.O
        simp (disch := first | assumption | omega | exact tb_sm0 | exact tb_sm1 _ | exact tb_sm2 _ _ | exact tb_sm3 _ _ _ | exact tb_sm4 _ _ _ _ | exact Or.inl rfl | exact Or.inr rfl | fail) only [r121_0, r121_1, r121_2, r121_3, r121_6, r121_9, r121_10, r121_11, r121_12, r121_15, r121_17, r121_18, r121_20, r121_23, r121_26, r121_27, r121_28, r121_29, r121_30, r121_31, r121_33, r121_36, r121_39, r121_42, r121_44, tb_vl_some, tb_vl_none, tb_wF_some]
        refine m_acted hG3 hH (by omega) (fun h4 hM4 hF4 => ?_)
        try simp (disch := first | assumption | omega | exact tb_sm0 | exact tb_sm1 _ | exact tb_sm2 _ _ | exact tb_sm3 _ _ _ | exact tb_sm4 _ _ _ _ | exact Or.inl rfl | exact Or.inr rfl | fail) only [r121_0, r121_1, r121_2, r121_3, r121_6, r121_9, r121_10, r121_11, r121_12, r121_15, r121_17, r121_18, r121_20, r121_23, r121_26, r121_27, r121_28, r121_29, r121_30, r121_31, r121_33, r121_36, r121_39, r121_42, r121_44, tb_vl_some, tb_vl_none, tb_wF_some]
        exact hQ h4 hM4 (hout.tr ((tb_out.o1 hF3).tr hF4))
theorem m_jolt {x : Int32} (hF : tb_MF h m s hs kn g) (hI : sp_I s) (hd : 3 ≤ d) (hQ : ∀ h', tb_MF h' m (ac_jolt s x).2 (sp_rc (ac_jolt s x).1 hs kn s).1 (sp_rc (ac_jolt s x).1 hs kn s).2 g → tb_out h h' m (m + 9) → Q (some (.int (ac_jolt s x).1)) h' nx) :
    tb_wp E d 122 0 [.ref m, .int x] [] h nx 0 0 Q := by
  obtain ⟨po, wr, sp, as, ah, cm, od, bf, hM, hH⟩ := hF
  have hO := hM.1.O
  simp (disch := first | assumption | omega | exact tb_sm0 | exact tb_sm1 _ | exact tb_sm2 _ _ | exact tb_sm3 _ _ _ | exact tb_sm4 _ _ _ _ | exact Or.inl rfl | exact Or.inr rfl | fail) only [r122_0, r122_1]
  refine m_looks hM.1 hM.2.1 hM.2.2.2.1 (fun h2 hA2 hF2 => ?_)
  have hM2 := hM.upA hA2 hF2
  have hO2 := hM2.1.O
  have hout : tb_out h h2 m (m + 9) := fun q hq => hF2 q (by omega)
  rcases tb_gd x (show 4 < 2 ^ 31 by decide) with hb | ⟨b, hb, rfl⟩
  · have e : ac_jolt s x = (-1, s) := by unfold ac_jolt; rw [if_pos hb]
    rw [e] at hQ
    dsimp only at hQ
    rw [sp_rc_neg (show (-1 : Int32) < 0 by decide)] at hQ
    simp (disch := first | assumption | omega | exact tb_sm0 | exact tb_sm1 _ | exact tb_sm2 _ _ | exact tb_sm3 _ _ _ | exact tb_sm4 _ _ _ _ | exact Or.inl rfl | exact Or.inr rfl | fail) only [r122_0, r122_1, r122_4, r122_5, r122_8, r122_11, r122_12, r122_13, r122_14, r122_17, r122_20, r122_23, r122_24, m_isBoard_no hb, tb_vl_some, tb_vl_none, tb_wF_some, nI_add, pk_mul, e_sub, e_div, tb_nmod, e_dec, e_le, e_lt, e_eq, e_eq0, e_lt0, e_0le, e_0lt, e_le0, if_true, if_false, not_true_eq_false, not_false_eq_true, ite_true, ite_false, Nat.reduceAdd, Nat.reduceMul, Nat.reduceLeDiff, Nat.reduceLT, Nat.reduceEqDiff, Nat.reduceSub, ↓reduceIte, Nat.reduceDiv, Nat.reduceMod]
    exact hQ h2 ⟨_, _, _, _, _, _, _, _, hM2, hH⟩ hout
  · have e : ac_jolt s (nI b) = if sp_heaps s b = 0 then (-5, s) else (nI (sp_heaps s b), sp_jolt s b) := by
      unfold ac_jolt; rw [if_neg (e_ok hb (by decide)), sp_n_nI (by omega)]
    rw [e] at hQ
    simp (disch := first | assumption | omega | exact tb_sm0 | exact tb_sm1 _ | exact tb_sm2 _ _ | exact tb_sm3 _ _ _ | exact tb_sm4 _ _ _ _ | exact Or.inl rfl | exact Or.inr rfl | fail) only [r122_0, r122_1, r122_4, r122_5, r122_8, r122_11, r122_12, r122_13, r122_14, r122_17, r122_20, r122_23, r122_24, m_isBoard, tb_vl_some, tb_vl_none, tb_wF_some, nI_add, pk_mul, e_sub, e_div, tb_nmod, e_dec, e_le, e_lt, e_eq, e_eq0, e_lt0, e_0le, e_0lt, e_le0, if_true, if_false, not_true_eq_false, not_false_eq_true, ite_true, ite_false, Nat.reduceAdd, Nat.reduceMul, Nat.reduceLeDiff, Nat.reduceLT, Nat.reduceEqDiff, Nat.reduceSub, ↓reduceIte, Nat.reduceDiv, Nat.reduceMod]
    refine m_jolts hM2.S hI (by omega) (by omega) (fun h3 hM3 hF3 => ?_)
    have hG3 := hM2.upS hM3 (hM2.2.2.2.2.2.2.2.1.to (hF3 _ (by omega)) (fun _ _ => rfl)) (fun q q1 _ => hF3 q q1)
    have hO3 := hG3.1.O
    by_cases c : sp_heaps s b = 0
    · rw [if_pos c] at hQ
      simp (disch := first | assumption | omega | exact tb_sm0 | exact tb_sm1 _ | exact tb_sm2 _ _ | exact tb_sm3 _ _ _ | exact tb_sm4 _ _ _ _ | exact Or.inl rfl | exact Or.inr rfl | fail) only [r122_0, r122_1, r122_4, r122_5, r122_8, r122_11, r122_12, r122_13, r122_14, r122_17, r122_20, r122_23, r122_24, c, tb_vl_some, tb_vl_none, tb_wF_some, nI_add, pk_mul, e_sub, e_div, tb_nmod, e_dec, e_le, e_lt, e_eq, e_eq0, e_lt0, e_0le, e_0lt, e_le0, if_true, if_false, not_true_eq_false, not_false_eq_true, ite_true, ite_false, Nat.reduceAdd, Nat.reduceMul, Nat.reduceLeDiff, Nat.reduceLT, Nat.reduceEqDiff, Nat.reduceSub, ↓reduceIte, Nat.reduceDiv, Nat.reduceMod]
      refine m_acted hG3 hH (by omega) (fun h4 hM4 hF4 => ?_)
      try simp (disch := first | assumption | omega | exact tb_sm0 | exact tb_sm1 _ | exact tb_sm2 _ _ | exact tb_sm3 _ _ _ | exact tb_sm4 _ _ _ _ | exact Or.inl rfl | exact Or.inr rfl | fail) only [r122_0, r122_1, r122_4, r122_5, r122_8, r122_11, r122_12, r122_13, r122_14, r122_17, r122_20, r122_23, r122_24, tb_vl_some, tb_vl_none, tb_wF_some]
      exact hQ h4 (hM4.to (fun j _ => sp_jolt_0 c j)) (hout.tr ((tb_out.o1 hF3).tr hF4))
    · rw [if_neg c] at hQ
      simp (disch := first | assumption | omega | exact tb_sm0 | exact tb_sm1 _ | exact tb_sm2 _ _ | exact tb_sm3 _ _ _ | exact tb_sm4 _ _ _ _ | exact Or.inl rfl | exact Or.inr rfl | fail) only [r122_0, r122_1, r122_4, r122_5, r122_8, r122_11, r122_12, r122_13, r122_14, r122_17, r122_20, r122_23, r122_24, c, tb_vl_some, tb_vl_none, tb_wF_some, nI_add, pk_mul, e_sub, e_div, tb_nmod, e_dec, e_le, e_lt, e_eq, e_eq0, e_lt0, e_0le, e_0lt, e_le0, if_true, if_false, not_true_eq_false, not_false_eq_true, ite_true, ite_false, Nat.reduceAdd, Nat.reduceMul, Nat.reduceLeDiff, Nat.reduceLT, Nat.reduceEqDiff, Nat.reduceSub, ↓reduceIte, Nat.reduceDiv, Nat.reduceMod]
      refine m_acted hG3 hH (by omega) (fun h4 hM4 hF4 => ?_)
      try simp (disch := first | assumption | omega | exact tb_sm0 | exact tb_sm1 _ | exact tb_sm2 _ _ | exact tb_sm3 _ _ _ | exact tb_sm4 _ _ _ _ | exact Or.inl rfl | exact Or.inr rfl | fail) only [r122_0, r122_1, r122_4, r122_5, r122_8, r122_11, r122_12, r122_13, r122_14, r122_17, r122_20, r122_23, r122_24, tb_vl_some, tb_vl_none, tb_wF_some]
      exact hQ h4 hM4 (hout.tr ((tb_out.o1 hF3).tr hF4))
theorem m_emptyPan {x : Int32} (hF : tb_MF h m s hs kn g) (hJ : sp_J s) (hd : 3 ≤ d) (hQ : ∀ h', tb_MF h' m (ac_empty s x).2 (sp_rc (ac_empty s x).1 hs kn s).1 (sp_rc (ac_empty s x).1 hs kn s).2 g → tb_out h h' m (m + 9) → Q (some (.int (ac_empty s x).1)) h' nx) :
    tb_wp E d 123 0 [.ref m, .int x] [] h nx 0 0 Q := by
  obtain ⟨po, wr, sp, as, ah, cm, od, bf, hM, hH⟩ := hF
  have hO := hM.1.O
  simp (disch := first | assumption | omega | exact tb_sm0 | exact tb_sm1 _ | exact tb_sm2 _ _ | exact tb_sm3 _ _ _ | exact tb_sm4 _ _ _ _ | exact Or.inl rfl | exact Or.inr rfl | fail) only [r123_0, r123_1]
  refine m_looks hM.1 hM.2.1 hM.2.2.2.1 (fun h2 hA2 hF2 => ?_)
  have hM2 := hM.upA hA2 hF2
  have hO2 := hM2.1.O
  have hout : tb_out h h2 m (m + 9) := fun q hq => hF2 q (by omega)
  rcases tb_gd x (show 4 < 2 ^ 31 by decide) with hb | ⟨b, hb, rfl⟩
  · have e : ac_empty s x = (-1, s) := by unfold ac_empty; rw [if_pos hb]
    rw [e] at hQ
    dsimp only at hQ
    rw [sp_rc_neg (show (-1 : Int32) < 0 by decide)] at hQ
    simp (disch := first | assumption | omega | exact tb_sm0 | exact tb_sm1 _ | exact tb_sm2 _ _ | exact tb_sm3 _ _ _ | exact tb_sm4 _ _ _ _ | exact Or.inl rfl | exact Or.inr rfl | fail) only [r123_0, r123_1, r123_4, r123_5, r123_8, r123_11, r123_12, r123_13, r123_14, r123_17, r123_20, r123_23, r123_24, m_isBoard_no hb, tb_vl_some, tb_vl_none, tb_wF_some, nI_add, pk_mul, e_sub, e_div, tb_nmod, e_dec, e_le, e_lt, e_eq, e_eq0, e_lt0, e_0le, e_0lt, e_le0, if_true, if_false, not_true_eq_false, not_false_eq_true, ite_true, ite_false, Nat.reduceAdd, Nat.reduceMul, Nat.reduceLeDiff, Nat.reduceLT, Nat.reduceEqDiff, Nat.reduceSub, ↓reduceIte, Nat.reduceDiv, Nat.reduceMod]
    exact hQ h2 ⟨_, _, _, _, _, _, _, _, hM2, hH⟩ hout
  · have e : ac_empty s (nI b) = if sp_pan s b = 0 then (-5, s) else (nI (sp_pan s b), sp_empty s b) := by
      unfold ac_empty; rw [if_neg (e_ok hb (by decide)), sp_n_nI (by omega)]
    rw [e] at hQ
    simp (disch := first | assumption | omega | exact tb_sm0 | exact tb_sm1 _ | exact tb_sm2 _ _ | exact tb_sm3 _ _ _ | exact tb_sm4 _ _ _ _ | exact Or.inl rfl | exact Or.inr rfl | fail) only [r123_0, r123_1, r123_4, r123_5, r123_8, r123_11, r123_12, r123_13, r123_14, r123_17, r123_20, r123_23, r123_24, m_isBoard, tb_vl_some, tb_vl_none, tb_wF_some, nI_add, pk_mul, e_sub, e_div, tb_nmod, e_dec, e_le, e_lt, e_eq, e_eq0, e_lt0, e_0le, e_0lt, e_le0, if_true, if_false, not_true_eq_false, not_false_eq_true, ite_true, ite_false, Nat.reduceAdd, Nat.reduceMul, Nat.reduceLeDiff, Nat.reduceLT, Nat.reduceEqDiff, Nat.reduceSub, ↓reduceIte, Nat.reduceDiv, Nat.reduceMod]
    refine m_empties hM2.S (by omega) (sp_pan_lt hJ (by omega)) (by omega) (fun h3 hM3 hF3 => ?_)
    have hG3 := hM2.upS hM3 (hM2.2.2.2.2.2.2.2.1.to (hF3 _ (by omega)) (fun _ _ => rfl)) (fun q q1 _ => hF3 q q1)
    have hO3 := hG3.1.O
    by_cases c : sp_pan s b = 0
    · rw [if_pos c] at hQ
      simp (disch := first | assumption | omega | exact tb_sm0 | exact tb_sm1 _ | exact tb_sm2 _ _ | exact tb_sm3 _ _ _ | exact tb_sm4 _ _ _ _ | exact Or.inl rfl | exact Or.inr rfl | fail) only [r123_0, r123_1, r123_4, r123_5, r123_8, r123_11, r123_12, r123_13, r123_14, r123_17, r123_20, r123_23, r123_24, c, tb_vl_some, tb_vl_none, tb_wF_some, nI_add, pk_mul, e_sub, e_div, tb_nmod, e_dec, e_le, e_lt, e_eq, e_eq0, e_lt0, e_0le, e_0lt, e_le0, if_true, if_false, not_true_eq_false, not_false_eq_true, ite_true, ite_false, Nat.reduceAdd, Nat.reduceMul, Nat.reduceLeDiff, Nat.reduceLT, Nat.reduceEqDiff, Nat.reduceSub, ↓reduceIte, Nat.reduceDiv, Nat.reduceMod]
      refine m_acted hG3 hH (by omega) (fun h4 hM4 hF4 => ?_)
      try simp (disch := first | assumption | omega | exact tb_sm0 | exact tb_sm1 _ | exact tb_sm2 _ _ | exact tb_sm3 _ _ _ | exact tb_sm4 _ _ _ _ | exact Or.inl rfl | exact Or.inr rfl | fail) only [r123_0, r123_1, r123_4, r123_5, r123_8, r123_11, r123_12, r123_13, r123_14, r123_17, r123_20, r123_23, r123_24, tb_vl_some, tb_vl_none, tb_wF_some]
      exact hQ h4 (hM4.to (fun j _ => sp_empty_0 c j)) (hout.tr ((tb_out.o1 hF3).tr hF4))
    · rw [if_neg c] at hQ
      simp (disch := first | assumption | omega | exact tb_sm0 | exact tb_sm1 _ | exact tb_sm2 _ _ | exact tb_sm3 _ _ _ | exact tb_sm4 _ _ _ _ | exact Or.inl rfl | exact Or.inr rfl | fail) only [r123_0, r123_1, r123_4, r123_5, r123_8, r123_11, r123_12, r123_13, r123_14, r123_17, r123_20, r123_23, r123_24, c, tb_vl_some, tb_vl_none, tb_wF_some, nI_add, pk_mul, e_sub, e_div, tb_nmod, e_dec, e_le, e_lt, e_eq, e_eq0, e_lt0, e_0le, e_0lt, e_le0, if_true, if_false, not_true_eq_false, not_false_eq_true, ite_true, ite_false, Nat.reduceAdd, Nat.reduceMul, Nat.reduceLeDiff, Nat.reduceLT, Nat.reduceEqDiff, Nat.reduceSub, ↓reduceIte, Nat.reduceDiv, Nat.reduceMod]
      refine m_acted hG3 hH (by omega) (fun h4 hM4 hF4 => ?_)
      try simp (disch := first | assumption | omega | exact tb_sm0 | exact tb_sm1 _ | exact tb_sm2 _ _ | exact tb_sm3 _ _ _ | exact tb_sm4 _ _ _ _ | exact Or.inl rfl | exact Or.inr rfl | fail) only [r123_0, r123_1, r123_4, r123_5, r123_8, r123_11, r123_12, r123_13, r123_14, r123_17, r123_20, r123_23, r123_24, tb_vl_some, tb_vl_none, tb_wF_some]
      exact hQ h4 hM4 (hout.tr ((tb_out.o1 hF3).tr hF4))
theorem m_pass {x : Int32} (hF : tb_MF h m s hs kn g) (hI : sp_I s) (hJ : sp_J s) (hd : 6 ≤ d) (hQ : ∀ h', tb_MF h' m (ac_pass s x).2 (sp_rc (ac_pass s x).1 hs kn s).1 (sp_rc (ac_pass s x).1 hs kn s).2 g → tb_out h h' m (m + 9) → Q (some (.int (ac_pass s x).1)) h' nx) :
    tb_wp E d 126 0 [.ref m, .int x] [] h nx 0 0 Q := by
  rcases tb_gd1 x (show 99 < 2 ^ 31 by decide) with hb | ⟨t, ht1, ht, rfl⟩
  · have e : ac_pass s x = (-2, s) := by unfold ac_pass; rw [if_pos hb]
    rw [e] at hQ
    dsimp only at hQ
    rw [sp_rc_neg (show (-2 : Int32) < 0 by decide)] at hQ
    simp (disch := first | assumption | omega | exact tb_sm0 | exact tb_sm1 _ | exact tb_sm2 _ _ | exact tb_sm3 _ _ _ | exact tb_sm4 _ _ _ _ | exact Or.inl rfl | exact Or.inr rfl | fail) only [r126_0, r126_1, r126_2, r126_4, r126_7, r126_10, r126_12, r126_13, r126_14, r126_17, r126_18, r126_21, r126_22, r126_23, r126_24, r126_25, r126_27, r126_30, r126_32, r126_35, r126_36, r126_37, r126_38, r126_41, r126_44, m_in_no hb, tb_vl_some, tb_vl_none, tb_wF_some, nI_add, pk_mul, e_sub, e_div, tb_nmod, e_dec, e_le, e_lt, e_eq, e_eq0, e_lt0, e_0le, e_0lt, e_le0, if_true, if_false, not_true_eq_false, not_false_eq_true, ite_true, ite_false, Nat.reduceAdd, Nat.reduceMul, Nat.reduceLeDiff, Nat.reduceLT, Nat.reduceEqDiff, Nat.reduceSub, ↓reduceIte, Nat.reduceDiv, Nat.reduceMod]
    exact hQ h hF tb_out.rf
  · obtain ⟨po, wr, sp, as, ah, cm, od, bf, hM, hH⟩ := hF
    have hO := hM.1.O
    have e : ac_pass s (nI t) = if 99999 < s 0 + t then (-3, s) else (nI (sp_fell (sp_pass s t)) - nI (sp_fell s), sp_pass s t) := by
      unfold ac_pass; rw [if_neg (e_ok1 ht1 ht (by decide)), sp_n_nI (by omega)]
    rw [e] at hQ
    simp (disch := first | assumption | omega | exact tb_sm0 | exact tb_sm1 _ | exact tb_sm2 _ _ | exact tb_sm3 _ _ _ | exact tb_sm4 _ _ _ _ | exact Or.inl rfl | exact Or.inr rfl | fail) only [r126_0, r126_1, r126_2, r126_4, r126_7, r126_10, r126_12, r126_14, r126_17, r126_18, r126_21, r126_22, r126_23, r126_24, r126_25, r126_27, r126_30, r126_32, r126_35, r126_36, r126_37, r126_38, r126_41, r126_44, m_in_n ht1 ht (by decide), tb_vl_some, tb_vl_none, tb_wF_some, nI_add, pk_mul, e_sub, e_div, tb_nmod, e_dec, e_le, e_lt, e_eq, e_eq0, e_lt0, e_0le, e_0lt, e_le0, if_true, if_false, not_true_eq_false, not_false_eq_true, ite_true, ite_false, Nat.reduceAdd, Nat.reduceMul, Nat.reduceLeDiff, Nat.reduceLT, Nat.reduceEqDiff, Nat.reduceSub, ↓reduceIte, Nat.reduceDiv, Nat.reduceMod]
    simp (disch := first | assumption | omega | exact tb_sm0 | exact tb_sm1 _ | exact tb_sm2 _ _ | exact tb_sm3 _ _ _ | exact tb_sm4 _ _ _ _ | exact Or.inl rfl | exact Or.inr rfl | fail) only [r126_13, r126_14]
    refine m_looks hM.1 hM.2.1 hM.2.2.2.1 (fun h2 hA2 hF2 => ?_)
    have hM2 := hM.upA hA2 hF2
    have hO2 := hM2.1.O
    have g2 := hM2.1.g
    have hS2 := hM2.S
    have hout : tb_out h h2 m (m + 9) := fun q hq => hF2 q (by omega)
    have j0 := hJ.1
    by_cases c : 99999 < s 0 + t
    · rw [if_pos c] at hQ
      have c' : ¬ s 0 + t ≤ 99999 := by omega
      simp (disch := first | assumption | omega | exact tb_sm0 | exact tb_sm1 _ | exact tb_sm2 _ _ | exact tb_sm3 _ _ _ | exact tb_sm4 _ _ _ _ | exact Or.inl rfl | exact Or.inr rfl | fail) only [r126_0, r126_1, r126_2, r126_4, r126_7, r126_10, r126_12, r126_14, r126_17, r126_18, r126_21, r126_22, r126_23, r126_24, r126_25, r126_27, r126_30, r126_32, r126_35, r126_36, r126_37, r126_38, r126_41, r126_44, g2, hS2.ld, c', tb_vl_some, tb_vl_none, tb_wF_some, nI_add, pk_mul, e_sub, e_div, tb_nmod, e_dec, e_le, e_lt, e_eq, e_eq0, e_lt0, e_0le, e_0lt, e_le0, if_true, if_false, not_true_eq_false, not_false_eq_true, ite_true, ite_false, Nat.reduceAdd, Nat.reduceMul, Nat.reduceLeDiff, Nat.reduceLT, Nat.reduceEqDiff, Nat.reduceSub, ↓reduceIte, Nat.reduceDiv, Nat.reduceMod]
      exact hQ h2 ⟨_, _, _, _, _, _, _, _, hM2, hH⟩ hout
    · rw [if_neg c] at hQ
      have c' : s 0 + t ≤ 99999 := by omega
      simp (disch := first | assumption | omega | exact tb_sm0 | exact tb_sm1 _ | exact tb_sm2 _ _ | exact tb_sm3 _ _ _ | exact tb_sm4 _ _ _ _ | exact Or.inl rfl | exact Or.inr rfl | fail) only [r126_0, r126_1, r126_2, r126_4, r126_7, r126_10, r126_12, r126_14, r126_17, r126_18, r126_21, r126_22, r126_23, r126_24, r126_25, r126_27, r126_30, r126_32, r126_35, r126_36, r126_37, r126_38, r126_41, r126_44, g2, hS2.ld, c', tb_vl_some, tb_vl_none, tb_wF_some, nI_add, pk_mul, e_sub, e_div, tb_nmod, e_dec, e_le, e_lt, e_eq, e_eq0, e_lt0, e_0le, e_0lt, e_le0, if_true, if_false, not_true_eq_false, not_false_eq_true, ite_true, ite_false, Nat.reduceAdd, Nat.reduceMul, Nat.reduceLeDiff, Nat.reduceLT, Nat.reduceEqDiff, Nat.reduceSub, ↓reduceIte, Nat.reduceDiv, Nat.reduceMod]
      refine m_passes hM2.S hM2.2.2.2.2.2.2.2.1 hI ht (by omega) (fun h3 F3 hM3 hA3 hF3 => ?_)
      have hG3 := hM2.upS hM3 hA3 hF3
      have hO3 := hG3.1.O
      simp (disch := first | assumption | omega | exact tb_sm0 | exact tb_sm1 _ | exact tb_sm2 _ _ | exact tb_sm3 _ _ _ | exact tb_sm4 _ _ _ _ | exact Or.inl rfl | exact Or.inr rfl | fail) only [r126_0, r126_1, r126_2, r126_4, r126_7, r126_10, r126_12, r126_14, r126_17, r126_18, r126_21, r126_22, r126_23, r126_24, r126_25, r126_27, r126_30, r126_32, r126_35, r126_36, r126_37, r126_38, r126_41, r126_44, tb_vl_some, tb_vl_none, tb_wF_some]
      refine m_acted hG3 hH (by omega) (fun h4 hM4 hF4 => ?_)
      try simp (disch := first | assumption | omega | exact tb_sm0 | exact tb_sm1 _ | exact tb_sm2 _ _ | exact tb_sm3 _ _ _ | exact tb_sm4 _ _ _ _ | exact Or.inl rfl | exact Or.inr rfl | fail) only [r126_0, r126_1, r126_2, r126_4, r126_7, r126_10, r126_12, r126_14, r126_17, r126_18, r126_21, r126_22, r126_23, r126_24, r126_25, r126_27, r126_30, r126_32, r126_35, r126_36, r126_37, r126_38, r126_41, r126_44, tb_vl_some, tb_vl_none, tb_wF_some]
      exact hQ h4 hM4 (hout.tr ((tb_out.o17 hF3).tr hF4))
end M7
