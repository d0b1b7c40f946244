/-! THE CLASS: a whole tick, copies, kinds in order -/
def tb_B (h : tb_heap) (b : Nat) (s : Nat → Nat) (i : Nat) : Prop := tb_Bq h b s (tb_mv s i) i
theorem sp_kd_onto (s : Nat → Nat) {k : Nat} (hk : k < 4) : ∃ t, t < 4 ∧ sp_kd s t = k := by
  have a0 := sp_kd_ok s (show 0 < 4 by decide)
  have a1 := sp_kd_ok s (show 1 < 4 by decide)
  have a2 := sp_kd_ok s (show 2 < 4 by decide)
  have a3 := sp_kd_ok s (show 3 < 4 by decide)
  have n : ∀ t t', t < 4 → t' < 4 → sp_kd s t = sp_kd s t' → t = t' := fun t t' h h' e => by
    have e1 := (sp_kd_ok s h).2
    have e2 := (sp_kd_ok s h').2
    rw [e] at e1
    omega
  have n01 : sp_kd s 0 ≠ sp_kd s 1 := fun e => by have := n 0 1 (by decide) (by decide) e; omega
  have n02 : sp_kd s 0 ≠ sp_kd s 2 := fun e => by have := n 0 2 (by decide) (by decide) e; omega
  have n03 : sp_kd s 0 ≠ sp_kd s 3 := fun e => by have := n 0 3 (by decide) (by decide) e; omega
  have n12 : sp_kd s 1 ≠ sp_kd s 2 := fun e => by have := n 1 2 (by decide) (by decide) e; omega
  have n13 : sp_kd s 1 ≠ sp_kd s 3 := fun e => by have := n 1 3 (by decide) (by decide) e; omega
  have n23 : sp_kd s 2 ≠ sp_kd s 3 := fun e => by have := n 2 3 (by decide) (by decide) e; omega
  rcases (by omega : sp_kd s 0 = k ∨ sp_kd s 1 = k ∨ sp_kd s 2 = k ∨ sp_kd s 3 = k) with q | q | q | q
  · exact ⟨0, by decide, q⟩
  · exact ⟨1, by decide, q⟩
  · exact ⟨2, by decide, q⟩
  · exact ⟨3, by decide, q⟩
theorem sl_inv_end {s0 : Nat → Nat} {i any : Nat} {q : (Nat → Nat) × (Nat → Nat)} (h : sl_inv s0 i q any 0 4) : any = 1 - sp_r1 s0 i := by
  unfold sp_r1
  rcases h with ⟨h1, h2, h3⟩ | ⟨h1, c, k, h2, h3, h4⟩
  · rw [sp_rb_t.mpr (fun k hk => ?_)]
    · exact h1
    · obtain ⟨t, ht, et⟩ := sp_kd_onto s0 (show k % 4 < 4 by omega)
      rw [← et]
      exact h3 (k / 4) t (by omega) (by omega) ht
  · rw [sp_rb_f.mpr (fun p => p (4 * c + k) (by omega) (by rw [show (4 * c + k) / 4 = c by omega, show (4 * c + k) % 4 = k by omega]; exact h4))]
    exact h1
section C4
variable {E : tb_env} {d : Nat} {nx : Nat} {Q : Option Value → tb_heap → Nat → Prop} {b a i : Nat}
theorem c_tick_l {s0 : Nat → Nat} (hi : i < 5) (hab : a + 4 ≤ b ∨ b + 4 ≤ a) (hd : 3 ≤ d) (n : Nat) : ∀ (h : tb_heap) (q : (Nat → Nat) × (Nat → Nat)) (any : Nat) (y z : Value), n ≤ 8 → tb_Bq h b q.1 (fun j => if j < 4 * n then s0 (208 + 32 * i + j) else q.2 j) i → tb_Ru h a q.1 → sp_I q.1 → (∀ j, 208 ≤ j → q.1 j = s0 j) → (∀ j, j < 4 * n → q.2 j = 0) → sl_inv s0 i q any n 4 → (∀ h' any', tb_Bq h' b (sp_down i n q).1 (sp_down i n q).2 i → sl_inv s0 i (sp_down i n q) any' 0 4 → (∀ q, q < b ∨ b + 4 ≤ q → h' q = h q) → Q (some (.int (nI any'))) h' nx) →
    tb_wp E d 8 5 [.ref b, .ref a, .int (nI any), .int (nI n + (-1)), y, z] [] h nx 0 0 Q := by
  induction n with
  | zero =>
    intro h q any y z hn hB hR hI hlo hz hS hQ
    have hany : nI any = nI 0 ∨ nI any = nI 1 := by
      rcases hS with ⟨h1, _⟩ | ⟨h1, _⟩
      · exact Or.inl (by rw [h1])
      · exact Or.inr (by rw [h1])
    simp (disch := first | assumption | omega | exact tb_sm0 | exact tb_sm1 _ | exact tb_sm2 _ _ | exact tb_sm3 _ _ _ | exact tb_sm4 _ _ _ _ | exact Or.inl rfl | exact Or.inr rfl | fail) only [r8_5, r8_6]
    rw [if_pos (by decide)]
    simp (disch := first | assumption | omega | exact tb_sm0 | exact tb_sm1 _ | exact tb_sm2 _ _ | exact tb_sm3 _ _ _ | exact tb_sm4 _ _ _ _ | exact Or.inl rfl | exact Or.inr rfl | fail) only [r8_0, r8_1, r8_2, r8_4, r8_6, r8_9, r8_10, r8_12, r8_14, r8_15, r8_18, r8_19, r8_22, r8_24, r8_25, r8_27, r8_28, r8_29, r8_31, r8_32, r8_35, r8_38, r8_39, r8_40, r8_42, r8_43, r8_46, r8_47, r8_48, r8_51, r8_54, r8_55, r8_56, r8_59, r8_62, r8_65, r8_66]
    exact hQ h any (hB.to rfl rfl rfl (fun _ _ => rfl) (fun _ _ => rfl) (fun j hj => by rw [if_neg (by omega)]; rfl)) hS (fun _ _ => rfl)
  | succ n ih =>
    intro h q any y z hn hB hR hI hlo hz hS hQ
    have hc : n < 8 := by omega
    have fin : tb_wp E d 8 12 [.ref b, .ref a, .int (nI any), .int (nI n), .int (nI 0), z] [] h nx 0 0 Q := by
      have hS0 : sl_inv s0 i q any n 0 := by
        rcases hS with ⟨h1, h2, h3⟩ | h2
        · exact Or.inl ⟨h1, h2, fun c' t' q1 q2 q3 => h3 c' t' (by omega) q2 q3⟩
        · exact Or.inr h2
      have ht0 : 0 < 4 := by decide
      have ht1 : 1 < 4 := by decide
      have ht2 : 2 < 4 := by decide
      have ht3 : 3 < 4 := by decide
      have I1 := sp_slot_I hI hi hc ht0
      have I2 := sp_slot_I I1 hi hc ht1
      have I3 := sp_slot_I I2 hi hc ht2
      have L1 : ∀ j, 208 ≤ j → (sp_slot q i n 0).1 j = s0 j := fun j hj => by rw [sp_slot_lo hi hc ht0 (Or.inr hj)]; exact hlo j hj
      have L2 : ∀ j, 208 ≤ j → (sp_slot (sp_slot q i n 0) i n 1).1 j = s0 j := fun j hj => by rw [sp_slot_lo hi hc ht1 (Or.inr hj)]; exact L1 j hj
      have L3 : ∀ j, 208 ≤ j → (sp_slot (sp_slot (sp_slot q i n 0) i n 1) i n 2).1 j = s0 j := fun j hj => by rw [sp_slot_lo hi hc ht2 (Or.inr hj)]; exact L2 j hj
      refine c_slot (q := q) hB hR hI hlo hS0 hi hc ht0 hab hd (fun h1 any1 y1 hB1 hR1 hS1 hF1 => ?_)
      refine c_slot hB1 hR1 I1 L1 hS1 hi hc ht1 hab hd (fun h2 any2 y2 hB2 hR2 hS2 hF2 => ?_)
      refine c_slot hB2 hR2 I2 L2 hS2 hi hc ht2 hab hd (fun h3 any3 y3 hB3 hR3 hS3 hF3 => ?_)
      refine c_slot hB3 hR3 I3 L3 hS3 hi hc ht3 hab hd (fun h4 any4 y4 hB4 hR4 hS4 hF4 => ?_)
      have hO4 := hB4.1.O
      simp (disch := first | assumption | omega | exact tb_sm0 | exact tb_sm1 _ | exact tb_sm2 _ _ | exact tb_sm3 _ _ _ | exact tb_sm4 _ _ _ _ | exact Or.inl rfl | exact Or.inr rfl | fail) only [r8_0, r8_1, r8_2, r8_4, r8_6, r8_9, r8_10, r8_12, r8_14, r8_15, r8_18, r8_19, r8_22, r8_24, r8_25, r8_27, r8_28, r8_29, r8_31, r8_32, r8_35, r8_38, r8_39, r8_40, r8_42, r8_43, r8_46, r8_47, r8_48, r8_51, r8_54, r8_55, r8_56, r8_59, r8_62, r8_65, r8_66, nI_add, pk_mul, e_sub, e_div, tb_nmod, e_dec, e_le, e_lt, e_eq, e_eq0, e_lt0, e_0le, e_0lt, e_le0, if_true, if_false, not_true_eq_false, not_false_eq_true, ite_true, ite_false, Nat.reduceAdd, Nat.reduceMul, Nat.reduceLeDiff, Nat.reduceLT, Nat.reduceEqDiff, Nat.reduceSub, ↓reduceIte, Nat.reduceDiv, Nat.reduceMod]
      refine c_stopMoving hB4 hc (by omega) (fun h5 hB5 hF5 => ?_)
      simp (disch := first | assumption | omega | exact tb_sm0 | exact tb_sm1 _ | exact tb_sm2 _ _ | exact tb_sm3 _ _ _ | exact tb_sm4 _ _ _ _ | exact Or.inl rfl | exact Or.inr rfl | fail) only [r8_0, r8_1, r8_2, r8_4, r8_6, r8_9, r8_10, r8_12, r8_14, r8_15, r8_18, r8_19, r8_22, r8_24, r8_25, r8_27, r8_28, r8_29, r8_31, r8_32, r8_35, r8_38, r8_39, r8_40, r8_42, r8_43, r8_46, r8_47, r8_48, r8_51, r8_54, r8_55, r8_56, r8_59, r8_62, r8_65, r8_66, tb_vl_some, tb_vl_none, tb_wF_some, nI_add, pk_mul, e_sub, e_div, tb_nmod, e_dec, e_le, e_lt, e_eq, e_eq0, e_lt0, e_0le, e_0lt, e_le0, if_true, if_false, not_true_eq_false, not_false_eq_true, ite_true, ite_false, Nat.reduceAdd, Nat.reduceMul, Nat.reduceLeDiff, Nat.reduceLT, Nat.reduceEqDiff, Nat.reduceSub, ↓reduceIte, Nat.reduceDiv, Nat.reduceMod]
      have hcm : ∀ j, j < 4 * (n + 1) → (sp_cell q i n).2 j = 0 := fun j hj => by
        unfold sp_cell
        rw [sp_slot_cm hj, sp_slot_cm hj, sp_slot_cm hj, sp_slot_cm hj]
        exact hz j hj
      refine ih h5 (sp_cell q i n) any4 _ _ (by omega) ?_ ?_ (sp_cell_I hI hi hc) (fun j hj => ?_) (fun j hj => hcm j (by omega)) hS4 (fun h6 any6 hB6 hS6 hF6 => hQ h6 any6 hB6 hS6 (fun q hq => by rw [hF6 q hq, hF5 q (by omega), hF4 q hq, hF3 q hq, hF2 q hq, hF1 q hq]))
      · refine hB5.to rfl rfl rfl (fun _ _ => rfl) (fun _ _ => rfl) (fun j hj => ?_)
        show (if 4 * n ≤ j ∧ j < 4 * n + 4 then 0 else sl_mk s0 (sp_cell q i n).2 i n j) = _
        unfold sl_mk
        by_cases c1 : 4 * n ≤ j ∧ j < 4 * n + 4
        · rw [if_pos c1, if_neg (by omega), hcm j (by omega)]
        · rw [if_neg c1]
          by_cases c2 : j < 4 * n
          · rw [if_pos (by omega), if_pos c2]
          · rw [if_neg (by omega), if_neg c2]
      · exact hR4.fr (fun x h1 h2 => hF5 x (by omega))
      · show (sp_slot _ i n 3).1 j = s0 j
        rw [sp_slot_lo hi hc ht3 (Or.inr hj)]; exact L3 j hj
    simp (disch := first | assumption | omega | exact tb_sm0 | exact tb_sm1 _ | exact tb_sm2 _ _ | exact tb_sm3 _ _ _ | exact tb_sm4 _ _ _ _ | exact Or.inl rfl | exact Or.inr rfl | fail) only [r8_5, r8_6, nI_add, pk_mul, e_sub, e_div, tb_nmod, e_dec, e_le, e_lt, e_eq, e_eq0, e_lt0, e_0le, e_0lt, e_le0, if_true, if_false, not_true_eq_false, not_false_eq_true, ite_true, ite_false, Nat.reduceAdd, Nat.reduceMul, Nat.reduceLeDiff, Nat.reduceLT, Nat.reduceEqDiff, Nat.reduceSub, ↓reduceIte, Nat.reduceDiv, Nat.reduceMod, Nat.add_sub_cancel]
    simp (disch := first | assumption | omega | exact tb_sm0 | exact tb_sm1 _ | exact tb_sm2 _ _ | exact tb_sm3 _ _ _ | exact tb_sm4 _ _ _ _ | exact Or.inl rfl | exact Or.inr rfl | fail) only [r8_0, r8_1, r8_2, r8_4, r8_6, r8_9, r8_10, r8_14, r8_15, r8_18, r8_19, r8_22, r8_24, r8_25, r8_27, r8_28, r8_29, r8_31, r8_32, r8_35, r8_38, r8_39, r8_40, r8_42, r8_43, r8_46, r8_47, r8_48, r8_51, r8_54, r8_55, r8_56, r8_59, r8_62, r8_65, r8_66, nI_add, pk_mul, e_sub, e_div, tb_nmod, e_dec, e_le, e_lt, e_eq, e_eq0, e_lt0, e_0le, e_0lt, e_le0, if_true, if_false, not_true_eq_false, not_false_eq_true, ite_true, ite_false, Nat.reduceAdd, Nat.reduceMul, Nat.reduceLeDiff, Nat.reduceLT, Nat.reduceEqDiff, Nat.reduceSub, ↓reduceIte, Nat.reduceDiv, Nat.reduceMod]
    exact fin
theorem c_slideOnce {h : tb_heap} {s : Nat → Nat} (hB : tb_B h b s i) (hR : tb_Ru h a s) (hI : sp_I s) (hi : i < 5) (hab : a + 4 ≤ b ∨ b + 4 ≤ a) (hd : 3 ≤ d) (hQ : ∀ h', tb_B h' b (sp_tick s i) i → (∀ q, q < b ∨ b + 4 ≤ q → h' q = h q) → Q (some (.int (nI (1 - sp_r1 s i)))) h' nx) :
    tb_wp E d 8 0 [.ref b, .ref a, .long 0, .long 0, .long 0, .long 0] [] h nx 0 0 Q := by
  simp (disch := first | assumption | omega | exact tb_sm0 | exact tb_sm1 _ | exact tb_sm2 _ _ | exact tb_sm3 _ _ _ | exact tb_sm4 _ _ _ _ | exact Or.inl rfl | exact Or.inr rfl | fail) only [r8_0, r8_1, r8_2, r8_4, r8_6, r8_9, r8_10, r8_12, r8_14, r8_15, r8_18, r8_19, r8_22, r8_24, r8_25, r8_27, r8_28, r8_29, r8_31, r8_32, r8_35, r8_38, r8_39, r8_40, r8_42, r8_43, r8_46, r8_47, r8_48, r8_51, r8_54, r8_55, r8_56, r8_59, r8_62, r8_65, r8_66]
  rw [show nI 7 = nI 8 + (-1) by decide]
  refine c_tick_l (s0 := s) hi hab hd 8 h (s, fun _ => 0) 0 _ _ (by decide) ?_ hR hI (fun _ _ => rfl) (fun _ _ => rfl) (Or.inl ⟨rfl, rfl, fun c' t' q1 q2 q3 => by omega⟩) (fun h' any hB' hS' hF' => ?_)
  · exact hB.to rfl rfl rfl (fun _ _ => rfl) (fun _ _ => rfl) (fun j hj => by rw [if_pos (by omega)]; rfl)
  · rw [sl_inv_end hS']
    refine hQ h' ?_ hF'
    have lo : ∀ j, j < 208 → sp_tick s i j = (sp_down i 8 (s, fun _ => 0)).1 j := fun j hj => by
      unfold sp_tick sp_mv; rw [if_neg (by omega)]
    refine hB'.to (lo _ (by omega)).symm (lo _ (by omega)).symm (lo _ (by omega)).symm (fun j hj => (lo _ (by omega)).symm) (fun j hj => (lo _ (by omega)).symm) (fun j hj => ?_)
    unfold tb_mv sp_tick sp_mv
    rw [if_pos (by omega), show 208 + 32 * i + j - (208 + 32 * i) = j by omega]
variable {h : tb_heap} {s mv : Nat → Nat}
theorem c_move_l {s0 : Nat → Nat} (hI : sp_I s0) (hi : i < 5) (n : Nat) : ∀ (j : Nat) (h : tb_heap) (mv : Nat → Nat), j + n = 32 → tb_Bq h b s0 mv i → (∀ k, mv k = if k < j ∧ 0 < s0 (48 + 32 * i + k) then 1 else s0 (208 + 32 * i + k)) → (∀ h', tb_B h' b (sp_jolt s0 i) i → (∀ q, q < b ∨ b + 4 ≤ q → h' q = h q) → Q none h' nx) →
    tb_wp E d 11 2 [.ref b, .int (nI j)] [] h nx 0 0 Q := by
  induction n with
  | zero =>
    intro j h mv hj hB hm hQ
    simp (disch := first | assumption | omega | exact tb_sm0 | exact tb_sm1 _ | exact tb_sm2 _ _ | exact tb_sm3 _ _ _ | exact tb_sm4 _ _ _ _ | exact Or.inl rfl | exact Or.inr rfl | fail) only [r11_2, r11_3, r11_5, nI_add, pk_mul, e_sub, e_div, tb_nmod, e_dec, e_le, e_lt, e_eq, e_eq0, e_lt0, e_0le, e_0lt, e_le0, if_true, if_false, not_true_eq_false, not_false_eq_true, ite_true, ite_false, Nat.reduceAdd, Nat.reduceMul, Nat.reduceLeDiff, Nat.reduceLT, Nat.reduceEqDiff, Nat.reduceSub, ↓reduceIte, Nat.reduceDiv, Nat.reduceMod]
    rw [if_pos (by omega)]
    simp (disch := first | assumption | omega | exact tb_sm0 | exact tb_sm1 _ | exact tb_sm2 _ _ | exact tb_sm3 _ _ _ | exact tb_sm4 _ _ _ _ | exact Or.inl rfl | exact Or.inr rfl | fail) only [r11_0, r11_1, r11_3, r11_5, r11_8, r11_9, r11_12, r11_13, r11_14, r11_17, r11_18, r11_21, r11_22, r11_23, r11_24, r11_27, r11_30]
    have lo : ∀ j, j < 208 → s0 j = sp_jolt s0 i j := fun j hj => by unfold sp_jolt; rw [if_neg (by omega)]
    refine hQ h (hB.to (lo _ (by omega)) (lo _ (by omega)) (lo _ (by omega)) (fun j hj => lo _ (by omega)) (fun j hj => lo _ (by omega)) (fun k hk => ?_)) (fun _ _ => rfl)
    rw [hm k]
    unfold tb_mv sp_jolt
    rw [show 208 + 32 * i + k - 160 = 48 + 32 * i + k by omega]
    by_cases c : 0 < s0 (48 + 32 * i + k)
    · rw [if_pos ⟨by omega, c⟩, if_pos ⟨by omega, by omega, c⟩]
    · rw [if_neg (fun q => c q.2), if_neg (fun q => c q.2.2)]
  | succ n ih =>
    intro j h mv hj hB hm hQ
    have g := hB.1.g
    simp (disch := first | assumption | omega | exact tb_sm0 | exact tb_sm1 _ | exact tb_sm2 _ _ | exact tb_sm3 _ _ _ | exact tb_sm4 _ _ _ _ | exact Or.inl rfl | exact Or.inr rfl | fail) only [r11_2, r11_3, r11_5, nI_add, pk_mul, e_sub, e_div, tb_nmod, e_dec, e_le, e_lt, e_eq, e_eq0, e_lt0, e_0le, e_0lt, e_le0, if_true, if_false, not_true_eq_false, not_false_eq_true, ite_true, ite_false, Nat.reduceAdd, Nat.reduceMul, Nat.reduceLeDiff, Nat.reduceLT, Nat.reduceEqDiff, Nat.reduceSub, ↓reduceIte, Nat.reduceDiv, Nat.reduceMod]
    rw [if_neg (by omega)]
    have hh := sp_hp_le hI hi (show j < 32 by omega)
    by_cases c : 0 < s0 (48 + 32 * i + j)
    · have c' : ¬ s0 (48 + 32 * i + j) = 0 := by omega
      simp (disch := first | assumption | omega | exact tb_sm0 | exact tb_sm1 _ | exact tb_sm2 _ _ | exact tb_sm3 _ _ _ | exact tb_sm4 _ _ _ _ | exact Or.inl rfl | exact Or.inr rfl | fail) only [r11_0, r11_1, r11_3, r11_5, r11_8, r11_9, r11_12, r11_13, r11_14, r11_17, r11_18, r11_21, r11_22, r11_23, r11_24, r11_27, r11_30, g, hB.H, c', tb_vl_some, tb_vl_none, tb_wF_some, nI_add, pk_mul, e_sub, e_div, tb_nmod, e_dec, e_le, e_lt, e_eq, e_eq0, e_lt0, e_0le, e_0lt, e_le0, if_true, if_false, not_true_eq_false, not_false_eq_true, ite_true, ite_false, Nat.reduceAdd, Nat.reduceMul, Nat.reduceLeDiff, Nat.reduceLT, Nat.reduceEqDiff, Nat.reduceSub, ↓reduceIte, Nat.reduceDiv, Nat.reduceMod]
      refine hB.stM (by omega) (fun h2 hB2 hF2 => ?_)
      try simp (disch := first | assumption | omega | exact tb_sm0 | exact tb_sm1 _ | exact tb_sm2 _ _ | exact tb_sm3 _ _ _ | exact tb_sm4 _ _ _ _ | exact Or.inl rfl | exact Or.inr rfl | fail) only [r11_0, r11_1, r11_3, r11_5, r11_8, r11_9, r11_12, r11_13, r11_14, r11_17, r11_18, r11_21, r11_22, r11_23, r11_24, r11_27, r11_30, nI_add, pk_mul, e_sub, e_div, tb_nmod, e_dec, e_le, e_lt, e_eq, e_eq0, e_lt0, e_0le, e_0lt, e_le0, if_true, if_false, not_true_eq_false, not_false_eq_true, ite_true, ite_false, Nat.reduceAdd, Nat.reduceMul, Nat.reduceLeDiff, Nat.reduceLT, Nat.reduceEqDiff, Nat.reduceSub, ↓reduceIte, Nat.reduceDiv, Nat.reduceMod]
      refine ih (j + 1) h2 _ (by omega) hB2 (fun k => ?_) (fun h3 hB3 hF3 => hQ h3 hB3 (fun q hq => by rw [hF3 q hq, hF2 q (by omega)]))
      unfold va_up
      by_cases ek : k = j
      · rw [if_pos ek, if_pos ⟨by omega, by rw [ek]; exact c⟩]
      · rw [if_neg ek, hm k]
        by_cases c2 : k < j ∧ 0 < s0 (48 + 32 * i + k)
        · rw [if_pos c2, if_pos ⟨by omega, c2.2⟩]
        · rw [if_neg c2, if_neg (by omega)]
    · have c' : s0 (48 + 32 * i + j) = 0 := by omega
      simp (disch := first | assumption | omega | exact tb_sm0 | exact tb_sm1 _ | exact tb_sm2 _ _ | exact tb_sm3 _ _ _ | exact tb_sm4 _ _ _ _ | exact Or.inl rfl | exact Or.inr rfl | fail) only [r11_0, r11_1, r11_3, r11_5, r11_8, r11_9, r11_12, r11_13, r11_14, r11_17, r11_18, r11_21, r11_22, r11_23, r11_24, r11_27, r11_30, g, hB.H, c', tb_vl_some, tb_vl_none, tb_wF_some, nI_add, pk_mul, e_sub, e_div, tb_nmod, e_dec, e_le, e_lt, e_eq, e_eq0, e_lt0, e_0le, e_0lt, e_le0, if_true, if_false, not_true_eq_false, not_false_eq_true, ite_true, ite_false, Nat.reduceAdd, Nat.reduceMul, Nat.reduceLeDiff, Nat.reduceLT, Nat.reduceEqDiff, Nat.reduceSub, ↓reduceIte, Nat.reduceDiv, Nat.reduceMod]
      refine ih (j + 1) h mv (by omega) hB (fun k => ?_) hQ
      rw [hm k]
      by_cases c2 : k < j ∧ 0 < s0 (48 + 32 * i + k)
      · rw [if_pos c2, if_pos ⟨by omega, c2.2⟩]
      · rw [if_neg c2, if_neg (fun q => by
          by_cases ek : k = j
          · rw [ek] at q; omega
          · exact c2 ⟨by omega, q.2⟩)]
theorem c_moveAllHeaps (hB : tb_B h b s i) (hI : sp_I s) (hi : i < 5) (hQ : ∀ h', tb_B h' b (sp_jolt s i) i → (∀ q, q < b ∨ b + 4 ≤ q → h' q = h q) → Q none h' nx) :
    tb_wp E d 11 0 [.ref b, .long 0] [] h nx 0 0 Q := by
  simp (disch := first | assumption | omega | exact tb_sm0 | exact tb_sm1 _ | exact tb_sm2 _ _ | exact tb_sm3 _ _ _ | exact tb_sm4 _ _ _ _ | exact Or.inl rfl | exact Or.inr rfl | fail) only [r11_0, r11_1, r11_3, r11_5, r11_8, r11_9, r11_12, r11_13, r11_14, r11_17, r11_18, r11_21, r11_22, r11_23, r11_24, r11_27, r11_30]
  exact c_move_l hI hi 32 0 h _ (by decide) hB (fun k => by rw [if_neg (by omega)]; rfl) hQ
abbrev sp_mb (s : Nat → Nat) : Prop := ∀ j, j < 160 → s (208 + j) ≤ 1
theorem sp_mb.B {s : Nat → Nat} {i : Nat} (hm : sp_mb s) (hi : i < 5) : ∀ j, j < 32 → tb_mv s i j ≤ 1 := by
  intro j hj
  have := hm (32 * i + j) (by omega)
  unfold tb_mv
  rwa [show 208 + 32 * i + j = 208 + (32 * i + j) by omega]
theorem c_copyM_l {o : Nat} {an fa du : Int32} {i : Nat} (hob : o + 4 ≤ b ∨ b + 4 ≤ o) (hm : ∀ j, j < 32 → mv j ≤ 1) (n : Nat) : ∀ (j : Nat) (h : tb_heap) (F : Nat → Int32), j + n = 32 → tb_Bq h o s mv i → tb_Bo h b an fa du → tb_isA h (b + 2) 1 32 F → (∀ k, k < j → F k = nI (mv k)) → (∀ h', tb_isA h' (b + 2) 1 32 (fun k => nI (mv k)) → (∀ q, q ≠ b + 2 → h' q = h q) → tb_wp E d 1 55 [.ref b, .ref o, .int (nI 32)] [] h' nx 0 0 Q) →
    tb_wp E d 1 31 [.ref b, .ref o, .int (nI j)] [] h nx 0 0 Q := by
  induction n with
  | zero =>
    intro j h F hj hA hB hX hF hQ
    have e : j = 32 := by omega
    subst e
    simp (disch := first | assumption | omega | exact tb_sm0 | exact tb_sm1 _ | exact tb_sm2 _ _ | exact tb_sm3 _ _ _ | exact tb_sm4 _ _ _ _ | exact Or.inl rfl | exact Or.inr rfl | fail) only [r1_31, r1_32, r1_34, nI_add, pk_mul, e_sub, e_div, tb_nmod, e_dec, e_le, e_lt, e_eq, e_eq0, e_lt0, e_0le, e_0lt, e_le0, if_true, if_false, not_true_eq_false, not_false_eq_true, ite_true, ite_false, Nat.reduceAdd, Nat.reduceMul, Nat.reduceLeDiff, Nat.reduceLT, Nat.reduceEqDiff, Nat.reduceSub, ↓reduceIte, Nat.reduceDiv, Nat.reduceMod]
    exact hQ h (hX.to rfl (fun k hk => hF k (by omega))) (fun _ _ => rfl)
  | succ n ih =>
    intro j h F hj hA hB hX hF hQ
    have gA := hA.1.g
    have gB := hB.g
    have hj32 : j < 32 := by omega
    have hx : nI (mv j) = nI 0 ∨ nI (mv j) = nI 1 := by
      have := hm j hj32
      rcases (show mv j = 0 ∨ mv j = 1 by omega) with q | q
      · left; rw [q]
      · right; rw [q]
    have lM := fun {K : Int32 → Prop} => hA.M (E := E) hj32 (K := K)
    simp (disch := first | assumption | omega | exact tb_sm0 | exact tb_sm1 _ | exact tb_sm2 _ _ | exact tb_sm3 _ _ _ | exact tb_sm4 _ _ _ _ | exact Or.inl rfl | exact Or.inr rfl | fail) only [r1_31, r1_32, r1_34, nI_add, pk_mul, e_sub, e_div, tb_nmod, e_dec, e_le, e_lt, e_eq, e_eq0, e_lt0, e_0le, e_0lt, e_le0, if_true, if_false, not_true_eq_false, not_false_eq_true, ite_true, ite_false, Nat.reduceAdd, Nat.reduceMul, Nat.reduceLeDiff, Nat.reduceLT, Nat.reduceEqDiff, Nat.reduceSub, ↓reduceIte, Nat.reduceDiv, Nat.reduceMod]
    rw [if_neg (by omega)]
    simp (disch := first | assumption | omega | exact tb_sm0 | exact tb_sm1 _ | exact tb_sm2 _ _ | exact tb_sm3 _ _ _ | exact tb_sm4 _ _ _ _ | exact Or.inl rfl | exact Or.inr rfl | fail) only [r1_0, r1_1, r1_4, r1_5, r1_6, r1_9, r1_10, r1_12, r1_15, r1_16, r1_19, r1_20, r1_21, r1_24, r1_25, r1_26, r1_29, r1_30, r1_32, r1_34, r1_37, r1_38, r1_41, r1_42, r1_43, r1_46, r1_47, r1_48, r1_49, r1_52, r1_55, r1_56, r1_57, r1_60, r1_63, r1_64, r1_65, r1_68, r1_71, r1_72, r1_73, r1_76, r1_79, gA, gB, lM, tb_vl_some, tb_vl_none, tb_wF_some, nI_add, pk_mul, e_sub, e_div, tb_nmod, e_dec, e_le, e_lt, e_eq, e_eq0, e_lt0, e_0le, e_0lt, e_le0, if_true, if_false, not_true_eq_false, not_false_eq_true, ite_true, ite_false, Nat.reduceAdd, Nat.reduceMul, Nat.reduceLeDiff, Nat.reduceLT, Nat.reduceEqDiff, Nat.reduceSub, ↓reduceIte, Nat.reduceDiv, Nat.reduceMod]
    refine hX.st (by omega) (by decide) (fun h2 hX2 hF2 => ?_)
    try simp (disch := first | assumption | omega | exact tb_sm0 | exact tb_sm1 _ | exact tb_sm2 _ _ | exact tb_sm3 _ _ _ | exact tb_sm4 _ _ _ _ | exact Or.inl rfl | exact Or.inr rfl | fail) only [r1_0, r1_1, r1_4, r1_5, r1_6, r1_9, r1_10, r1_12, r1_15, r1_16, r1_19, r1_20, r1_21, r1_24, r1_25, r1_26, r1_29, r1_30, r1_32, r1_34, r1_37, r1_38, r1_41, r1_42, r1_43, r1_46, r1_47, r1_48, r1_49, r1_52, r1_55, r1_56, r1_57, r1_60, r1_63, r1_64, r1_65, r1_68, r1_71, r1_72, r1_73, r1_76, r1_79, nI_add, pk_mul, e_sub, e_div, tb_nmod, e_dec, e_le, e_lt, e_eq, e_eq0, e_lt0, e_0le, e_0lt, e_le0, if_true, if_false, not_true_eq_false, not_false_eq_true, ite_true, ite_false, Nat.reduceAdd, Nat.reduceMul, Nat.reduceLeDiff, Nat.reduceLT, Nat.reduceEqDiff, Nat.reduceSub, ↓reduceIte, Nat.reduceDiv, Nat.reduceMod]
    refine ih (j + 1) h2 _ (by omega) (hA.fr (fun q q1 q2 => hF2 q (by omega))) ((hF2 b (by omega)).trans hB) hX2 (fun k hk => ?_) (fun h3 hX3 hF3 => hQ h3 hX3 (fun q hq => by rw [hF3 q hq, hF2 q hq]))
    unfold upd
    by_cases c : k = j
    · rw [if_pos c, c]
    · rw [if_neg c]; exact hF k (by omega)
theorem c_copyBoard {o : Nat} {s' mv' : Nat → Nat} {i' : Nat} (hm : ∀ j, j < 32 → mv j ≤ 1) (hA : tb_Bq h o s mv i) (hB : tb_Bq h b s' mv' i') (hob : o + 4 ≤ b ∨ b + 4 ≤ o) (hd : 1 ≤ d) (hQ : ∀ h', tb_Bq h' b s mv i → (∀ q, q < b ∨ b + 4 ≤ q → h' q = h q) → Q none h' nx) :
    tb_wp E d 1 0 [.ref b, .ref o, .long 0] [] h nx 0 0 Q := by
  have gA := hA.1.g
  have gB := hB.1.g
  simp (disch := first | assumption | omega | exact tb_sm0 | exact tb_sm1 _ | exact tb_sm2 _ _ | exact tb_sm3 _ _ _ | exact tb_sm4 _ _ _ _ | exact Or.inl rfl | exact Or.inr rfl | fail) only [r1_0, r1_1, r1_4, r1_5, r1_6, r1_9, r1_10, r1_12, r1_15, r1_16, r1_19, r1_20, r1_21, r1_24, r1_25, r1_26, r1_29, r1_30, r1_32, r1_34, r1_37, r1_38, r1_41, r1_42, r1_43, r1_46, r1_47, r1_48, r1_49, r1_52, r1_55, r1_56, r1_57, r1_60, r1_63, r1_64, r1_65, r1_68, r1_71, r1_72, r1_73, r1_76, r1_79, gA, gB, tb_vl_some, tb_vl_none, tb_wF_some]
  refine hA.2.1.cp hB.2.1 (by decide) (by decide) (fun h1 hX1 hF1 => ?_)
  have A1 := hA.fr (fun q q1 q2 => hF1 q (by omega))
  have o1 : tb_Bo h1 b _ _ _ := (hF1 b (by omega)).trans hB.1
  have gA1 := A1.1.g
  have gB1 := o1.g
  simp (disch := first | assumption | omega | exact tb_sm0 | exact tb_sm1 _ | exact tb_sm2 _ _ | exact tb_sm3 _ _ _ | exact tb_sm4 _ _ _ _ | exact Or.inl rfl | exact Or.inr rfl | fail) only [r1_0, r1_1, r1_4, r1_5, r1_6, r1_9, r1_10, r1_12, r1_15, r1_16, r1_19, r1_20, r1_21, r1_24, r1_25, r1_26, r1_29, r1_30, r1_32, r1_34, r1_37, r1_38, r1_41, r1_42, r1_43, r1_46, r1_47, r1_48, r1_49, r1_52, r1_55, r1_56, r1_57, r1_60, r1_63, r1_64, r1_65, r1_68, r1_71, r1_72, r1_73, r1_76, r1_79, gA1, gB1, tb_vl_some, tb_vl_none, tb_wF_some]
  refine A1.2.2.2.cp (hB.2.2.2.to (hF1 _ (by omega)) (fun _ _ => rfl)) (by decide) (by decide) (fun h2 hX2 hF2 => ?_)
  have A2 := A1.fr (fun q q1 q2 => hF2 q (by omega))
  have o2 : tb_Bo h2 b _ _ _ := (hF2 b (by omega)).trans o1
  try simp (disch := first | assumption | omega | exact tb_sm0 | exact tb_sm1 _ | exact tb_sm2 _ _ | exact tb_sm3 _ _ _ | exact tb_sm4 _ _ _ _ | exact Or.inl rfl | exact Or.inr rfl | fail) only [r1_0, r1_1, r1_4, r1_5, r1_6, r1_9, r1_10, r1_12, r1_15, r1_16, r1_19, r1_20, r1_21, r1_24, r1_25, r1_26, r1_29, r1_30, r1_32, r1_34, r1_37, r1_38, r1_41, r1_42, r1_43, r1_46, r1_47, r1_48, r1_49, r1_52, r1_55, r1_56, r1_57, r1_60, r1_63, r1_64, r1_65, r1_68, r1_71, r1_72, r1_73, r1_76, r1_79, tb_vl_some, tb_vl_none, tb_wF_some]
  refine c_copyM_l hob hm 32 0 h2 _ rfl A2 o2 (hB.2.2.1.to ((hF2 _ (by omega)).trans (hF1 _ (by omega))) (fun _ _ => rfl)) (fun k hk => by omega) (fun h3 hX3 hF3 => ?_)
  have A3 := A2.fr (fun q q1 q2 => hF3 q (by omega))
  have o3 : tb_Bo h3 b _ _ _ := (hF3 b (by omega)).trans o2
  have gA3 := A3.1.g
  simp (disch := first | assumption | omega | exact tb_sm0 | exact tb_sm1 _ | exact tb_sm2 _ _ | exact tb_sm3 _ _ _ | exact tb_sm4 _ _ _ _ | exact Or.inl rfl | exact Or.inr rfl | fail) only [r1_0, r1_1, r1_4, r1_5, r1_6, r1_9, r1_10, r1_12, r1_15, r1_16, r1_19, r1_20, r1_21, r1_24, r1_25, r1_26, r1_29, r1_30, r1_32, r1_34, r1_37, r1_38, r1_41, r1_42, r1_43, r1_46, r1_47, r1_48, r1_49, r1_52, r1_55, r1_56, r1_57, r1_60, r1_63, r1_64, r1_65, r1_68, r1_71, r1_72, r1_73, r1_76, r1_79, gA3, tb_vl_some, tb_vl_none, tb_wF_some]
  refine tb_pf_ok o3 (by simp) (fun h4 h41 h42 => ?_)
  have A4 := A3.fr (fun q q1 q2 => h42 q (by omega))
  have gA4 := A4.1.g
  simp (disch := first | assumption | omega | exact tb_sm0 | exact tb_sm1 _ | exact tb_sm2 _ _ | exact tb_sm3 _ _ _ | exact tb_sm4 _ _ _ _ | exact Or.inl rfl | exact Or.inr rfl | fail) only [r1_0, r1_1, r1_4, r1_5, r1_6, r1_9, r1_10, r1_12, r1_15, r1_16, r1_19, r1_20, r1_21, r1_24, r1_25, r1_26, r1_29, r1_30, r1_32, r1_34, r1_37, r1_38, r1_41, r1_42, r1_43, r1_46, r1_47, r1_48, r1_49, r1_52, r1_55, r1_56, r1_57, r1_60, r1_63, r1_64, r1_65, r1_68, r1_71, r1_72, r1_73, r1_76, r1_79, gA4, tb_vl_some, tb_vl_none, tb_wF_some]
  refine tb_pf_ok h41 (by simp) (fun h5 h51 h52 => ?_)
  have A5 := A4.fr (fun q q1 q2 => h52 q (by omega))
  have gA5 := A5.1.g
  simp (disch := first | assumption | omega | exact tb_sm0 | exact tb_sm1 _ | exact tb_sm2 _ _ | exact tb_sm3 _ _ _ | exact tb_sm4 _ _ _ _ | exact Or.inl rfl | exact Or.inr rfl | fail) only [r1_0, r1_1, r1_4, r1_5, r1_6, r1_9, r1_10, r1_12, r1_15, r1_16, r1_19, r1_20, r1_21, r1_24, r1_25, r1_26, r1_29, r1_30, r1_32, r1_34, r1_37, r1_38, r1_41, r1_42, r1_43, r1_46, r1_47, r1_48, r1_49, r1_52, r1_55, r1_56, r1_57, r1_60, r1_63, r1_64, r1_65, r1_68, r1_71, r1_72, r1_73, r1_76, r1_79, gA5, tb_vl_some, tb_vl_none, tb_wF_some]
  refine tb_pf_ok h51 (by simp) (fun h6 h61 h62 => ?_)
  try simp (disch := first | assumption | omega | exact tb_sm0 | exact tb_sm1 _ | exact tb_sm2 _ _ | exact tb_sm3 _ _ _ | exact tb_sm4 _ _ _ _ | exact Or.inl rfl | exact Or.inr rfl | fail) only [r1_0, r1_1, r1_4, r1_5, r1_6, r1_9, r1_10, r1_12, r1_15, r1_16, r1_19, r1_20, r1_21, r1_24, r1_25, r1_26, r1_29, r1_30, r1_32, r1_34, r1_37, r1_38, r1_41, r1_42, r1_43, r1_46, r1_47, r1_48, r1_49, r1_52, r1_55, r1_56, r1_57, r1_60, r1_63, r1_64, r1_65, r1_68, r1_71, r1_72, r1_73, r1_76, r1_79]
  have fr : ∀ q, q ≠ b → h6 q = h3 q := fun q hq => by rw [h62 q hq, h52 q hq, h42 q hq]
  refine hQ h6 ⟨h61, hX1.to (by rw [fr _ (by omega), hF3 _ (by omega), hF2 _ (by omega)]) (fun _ _ => rfl), hX3.to (by rw [fr _ (by omega)]) (fun _ _ => rfl), hX2.to (by rw [fr _ (by omega), hF3 _ (by omega)]) (fun _ _ => rfl)⟩ (fun q hq => by rw [fr q (by omega), hF3 q (by omega), hF2 q (by omega), hF1 q (by omega)])
theorem c_copyRules {o : Nat} {s' : Nat → Nat} (hA : tb_Ru h o s) (hB : tb_Ru h b s') (hob : o + 4 ≤ b ∨ b + 4 ≤ o) (hd : 1 ≤ d) (hQ : ∀ h', tb_Ru h' b s → (∀ q, q < b ∨ b + 4 ≤ q → h' q = h q) → Q none h' nx) :
    tb_wp E d 33 0 [.ref b, .ref o] [] h nx 0 0 Q := by
  have gA := hA.g
  have gB := hB.g
  simp (disch := first | assumption | omega | exact tb_sm0 | exact tb_sm1 _ | exact tb_sm2 _ _ | exact tb_sm3 _ _ _ | exact tb_sm4 _ _ _ _ | exact Or.inl rfl | exact Or.inr rfl | fail) only [r33_0, r33_1, r33_4, r33_5, r33_6, r33_9, r33_10, r33_11, r33_14, r33_15, r33_18, r33_19, r33_20, r33_23, r33_24, r33_25, r33_28, r33_29, r33_32, r33_33, r33_34, r33_37, r33_38, r33_39, r33_42, gA, gB, tb_vl_some, tb_vl_none, tb_wF_some]
  refine hA.2.1.cp hB.2.1 (by decide) (by decide) (fun h1 hX1 hF1 => ?_)
  have A1 := hA.fr (fun q q1 q2 => hF1 q (by omega))
  have o1 := (hF1 b (by omega)).trans hB.1
  have gA1 := A1.g
  have gB1 : tb_gf h1 b 3 0 = some (.ref (b + 1)) ∧ tb_gf h1 b 3 1 = some (.ref (b + 2)) ∧ tb_gf h1 b 3 2 = some (.ref (b + 3)) := by
    unfold tb_gf; rw [o1]; exact ⟨rfl, rfl, rfl⟩
  simp (disch := first | assumption | omega | exact tb_sm0 | exact tb_sm1 _ | exact tb_sm2 _ _ | exact tb_sm3 _ _ _ | exact tb_sm4 _ _ _ _ | exact Or.inl rfl | exact Or.inr rfl | fail) only [r33_0, r33_1, r33_4, r33_5, r33_6, r33_9, r33_10, r33_11, r33_14, r33_15, r33_18, r33_19, r33_20, r33_23, r33_24, r33_25, r33_28, r33_29, r33_32, r33_33, r33_34, r33_37, r33_38, r33_39, r33_42, gA1, gB1, tb_vl_some, tb_vl_none, tb_wF_some]
  refine A1.2.2.1.cp (hB.2.2.1.to (hF1 _ (by omega)) (fun _ _ => rfl)) (by decide) (by decide) (fun h2 hX2 hF2 => ?_)
  have A2 := A1.fr (fun q q1 q2 => hF2 q (by omega))
  have o2 := (hF2 b (by omega)).trans o1
  have gA2 := A2.g
  have gB2 : tb_gf h2 b 3 0 = some (.ref (b + 1)) ∧ tb_gf h2 b 3 1 = some (.ref (b + 2)) ∧ tb_gf h2 b 3 2 = some (.ref (b + 3)) := by
    unfold tb_gf; rw [o2]; exact ⟨rfl, rfl, rfl⟩
  simp (disch := first | assumption | omega | exact tb_sm0 | exact tb_sm1 _ | exact tb_sm2 _ _ | exact tb_sm3 _ _ _ | exact tb_sm4 _ _ _ _ | exact Or.inl rfl | exact Or.inr rfl | fail) only [r33_0, r33_1, r33_4, r33_5, r33_6, r33_9, r33_10, r33_11, r33_14, r33_15, r33_18, r33_19, r33_20, r33_23, r33_24, r33_25, r33_28, r33_29, r33_32, r33_33, r33_34, r33_37, r33_38, r33_39, r33_42, gA2, gB2, tb_vl_some, tb_vl_none, tb_wF_some]
  refine A2.2.2.2.cp (hB.2.2.2.to ((hF2 _ (by omega)).trans (hF1 _ (by omega))) (fun _ _ => rfl)) (by decide) (by decide) (fun h3 hX3 hF3 => ?_)
  try simp (disch := first | assumption | omega | exact tb_sm0 | exact tb_sm1 _ | exact tb_sm2 _ _ | exact tb_sm3 _ _ _ | exact tb_sm4 _ _ _ _ | exact Or.inl rfl | exact Or.inr rfl | fail) only [r33_0, r33_1, r33_4, r33_5, r33_6, r33_9, r33_10, r33_11, r33_14, r33_15, r33_18, r33_19, r33_20, r33_23, r33_24, r33_25, r33_28, r33_29, r33_32, r33_33, r33_34, r33_37, r33_38, r33_39, r33_42]
  refine hQ h3 ⟨(hF3 b (by omega)).trans o2, hX1.to (by rw [hF3 _ (by omega), hF2 _ (by omega)]) (fun _ _ => rfl), hX2.to (by rw [hF3 _ (by omega)]) (fun _ _ => rfl), hX3⟩ (fun q hq => by rw [hF3 q (by omega), hF2 q (by omega), hF1 q (by omega)])
end C4
