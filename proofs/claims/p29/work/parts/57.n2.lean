/-! BIRTH of states, of the class, of the reference -/
theorem tb_Bq.z {h : tb_heap} {b i : Nat} (hB : tb_Bq h b (fun _ => 0) (fun _ => 0) 0) : tb_B h b sp_0 i := by
  obtain ⟨a1, a2, a3, a4⟩ := hB
  refine ⟨?_, a2.to rfl (fun j hj => ?_), a3.to rfl (fun j hj => ?_), a4.to rfl (fun j hj => ?_)⟩
  · rw [sp_0_hi (by omega), sp_0_hi (by omega), sp_0_hi (by omega)]; exact a1
  · rw [sp_0_hi (by omega)]
  · unfold tb_mv; rw [sp_0_hi (by omega)]
  · rw [sp_0_hi (by omega)]
section N2
variable {E : tb_env} {d : Nat} {Q : Option Value → tb_heap → Nat → Prop} {a x : Nat}
/-- the state while its boards are being born -/
def st_inv (h : tb_heap) (a i : Nat) : Prop := h a = some (.inl (4, [.ref (a + 1), .ref (a + 5), .ref (a + 6), .int 0, .int 0])) ∧ tb_Ru h (a + 1) sp_0 ∧ (∃ g, h (a + 5) = some (.inr (.inr (0, 5, g))) ∧ ∀ j, j < i → g j = some (tb_ba a j)) ∧ tb_isA h (a + 6) 0 4 (fun _ => nI 0) ∧ ∀ j, j < i → tb_Bq h (tb_ba a j) (fun _ => 0) (fun _ => 0) 0
theorem st_step {h : tb_heap} {i bc bs : Nat} (hi : i < 5) (hS : st_inv h a i) (hd : 2 ≤ d) (hbc : 4 ≤ bc) (hbs : 74 ≤ bs) (hQ : ∀ h', st_inv h' a (i + 1) → (∀ q, q < a ∨ a + 27 ≤ q → h' q = h q) → tb_wp E d 26 32 [.ref a, .int (nI (i + 1))] [] h' (tb_ba a (i + 1)) (bc - 4) (bs - 74) Q) :
    tb_wp E d 26 32 [.ref a, .int (nI i)] [] h (tb_ba a i) bc bs Q := by
  obtain ⟨s1, s2, ⟨g, s3, s4⟩, s5, s6⟩ := hS
  have gs : tb_gf h a 4 1 = some (.ref (a + 5)) := by unfold tb_gf; rw [s1]; rfl
  have hi5 : ¬ 5 ≤ i := by omega
  have e1 : tb_ba a i ≠ a := by unfold tb_ba; omega
  simp (disch := first | assumption | omega | exact tb_sm0 | exact tb_sm1 _ | exact tb_sm2 _ _ | exact tb_sm3 _ _ _ | exact tb_sm4 _ _ _ _ | exact Or.inl rfl | exact Or.inr rfl | fail) only [r26_32, r26_33, r26_34, hi5, nI_add, pk_mul, e_sub, e_div, tb_nmod, e_dec, e_le, e_lt, e_eq, e_eq0, e_lt0, e_0le, e_0lt, e_le0, if_true, if_false, not_true_eq_false, not_false_eq_true, ite_true, ite_false, Nat.reduceAdd, Nat.reduceMul, Nat.reduceLeDiff, Nat.reduceLT, Nat.reduceEqDiff, Nat.reduceSub, ↓reduceIte, Nat.reduceDiv, Nat.reduceMod]
  simp (disch := first | assumption | omega | exact tb_sm0 | exact tb_sm1 _ | exact tb_sm2 _ _ | exact tb_sm3 _ _ _ | exact tb_sm4 _ _ _ _ | exact Or.inl rfl | exact Or.inr rfl | fail) only [r26_37, r26_38, r26_41, r26_42, r26_45i, r26_45, r26_46, gs, tb_vl_some, tb_vl_none, tb_wF_some]
  refine b_init tb_up_s (by omega) (fun h2 hB2 hF2 => ?_)
  have fr : ∀ q, q < tb_ba a i ∨ tb_ba a i + 4 ≤ q → h2 q = h q := fun q hq => (hF2 q hq).trans (tb_up_n (by omega))
  simp (disch := first | assumption | omega | exact tb_sm0 | exact tb_sm1 _ | exact tb_sm2 _ _ | exact tb_sm3 _ _ _ | exact tb_sm4 _ _ _ _ | exact Or.inl rfl | exact Or.inr rfl | fail) only [r26_49, tb_vl_some, tb_vl_none, tb_wF_some, Nat.reduceAdd]
  refine tb_ast_ok ((fr _ (by unfold tb_ba; omega)).trans s3) hB2.1 hi (by decide) (fun h3 h31 h32 => ?_)
  simp (disch := first | assumption | omega | exact tb_sm0 | exact tb_sm1 _ | exact tb_sm2 _ _ | exact tb_sm3 _ _ _ | exact tb_sm4 _ _ _ _ | exact Or.inl rfl | exact Or.inr rfl | fail) only [r26_50, r26_53, nI_add]
  have fr3 : ∀ q, q < tb_ba a i ∨ tb_ba a i + 4 ≤ q → q ≠ a + 5 → h3 q = h q := fun q hq h5 => (h32 q h5).trans (fr q hq)
  have ebc : bc - 1 - 3 = bc - 4 := by omega
  have ebs : bs - 6 - 68 = bs - 74 := by omega
  have enx : tb_ba a i + 4 = tb_ba a (i + 1) := by unfold tb_ba; omega
  have q := hQ h3 ⟨(fr3 a (by unfold tb_ba; omega) (by omega)).trans s1, s2.fr (fun q q1 q2 => fr3 q (by unfold tb_ba; omega) (by omega)), ⟨_, h31, fun j hj => ?_⟩, s5.to (fr3 _ (by unfold tb_ba; omega) (by omega)) (fun _ _ => rfl), fun j hj => ?_⟩ (fun q hq => fr3 q (by unfold tb_ba; omega) (by omega))
  · rw [← enx] at q
    first | exact q | (rw [ebc, ebs]; exact q) | (simp only [ebc, ebs]; exact q)
  · unfold va_up
    by_cases ej : j = i
    · rw [if_pos ej, ej]
    · rw [if_neg ej]; exact s4 j (by omega)
  · by_cases ej : j = i
    · rw [ej]
      exact hB2.fr (fun q q1 q2 => h32 q (by unfold tb_ba at *; omega))
    · exact (s6 j (by omega)).fr (fun q q1 q2 => fr3 q (by unfold tb_ba at *; omega) (by unfold tb_ba at *; omega))
theorem state_init {h : tb_heap} (h0 : h a = some (.inl (4, [.null, .null, .null, .int 0, .int 0]))) (hL : tb_SL E h) (hlo : ∀ k, k < 4 → E.1 k < a) (hd : 3 ≤ d) (hQ : ∀ h', tb_St h' a sp_0 → (∀ q, q < a ∨ a + 27 ≤ q → h' q = h q) → Q none h' (a + 27)) :
    tb_wp E d 26 0 [.ref a, .long 0] [] h (a + 1) 26 393 Q := by
  simp (disch := first | assumption | omega | exact tb_sm0 | exact tb_sm1 _ | exact tb_sm2 _ _ | exact tb_sm3 _ _ _ | exact tb_sm4 _ _ _ _ | exact Or.inl rfl | exact Or.inr rfl | fail) only [r26_0, r26_1, r26_4, r26_5, r26_8i, r26_8, r26_9]
  refine rules_init tb_up_s ⟨hL.1, fun k hk => (tb_up_n (by have := hlo k hk; omega)).trans (hL.2 k hk)⟩ (fun k hk => by have := hlo k hk; omega) (by omega) (fun h1 hR1 hF1 => ?_)
  have f1 : ∀ q, q < a + 1 ∨ a + 5 ≤ q → h1 q = h q := fun q hq => (hF1 q (by omega)).trans (tb_up_n (by omega))
  simp (disch := first | assumption | omega | exact tb_sm0 | exact tb_sm1 _ | exact tb_sm2 _ _ | exact tb_sm3 _ _ _ | exact tb_sm4 _ _ _ _ | exact Or.inl rfl | exact Or.inr rfl | fail) only [r26_12, tb_vl_some, tb_vl_none, tb_wF_some, Nat.reduceAdd, Nat.reduceSub]
  refine tb_pf_ok ((f1 a (by omega)).trans h0) (by simp) (fun h2 h21 h22 => ?_)
  simp (disch := first | assumption | omega | exact tb_sm0 | exact tb_sm1 _ | exact tb_sm2 _ _ | exact tb_sm3 _ _ _ | exact tb_sm4 _ _ _ _ | exact Or.inl rfl | exact Or.inr rfl | fail) only [r26_15, r26_16, r26_17, r26_20, Nat.reduceSub]
  refine tb_ap h21 (by omega) (by simp) (fun h3 h31 h32 h33 => ?_)
  simp (disch := first | assumption | omega | exact tb_sm0 | exact tb_sm1 _ | exact tb_sm2 _ _ | exact tb_sm3 _ _ _ | exact tb_sm4 _ _ _ _ | exact Or.inl rfl | exact Or.inr rfl | fail) only [r26_23, r26_24, r26_25, r26_27, Nat.reduceSub]
  refine tb_ap h31 (by omega) (by simp) (fun h4 h41 h42 h43 => ?_)
  simp (disch := first | assumption | omega | exact tb_sm0 | exact tb_sm1 _ | exact tb_sm2 _ _ | exact tb_sm3 _ _ _ | exact tb_sm4 _ _ _ _ | exact Or.inl rfl | exact Or.inr rfl | fail) only [r26_30, r26_31]
  have f4 : ∀ q, q ≠ a → q ≠ a + 5 → q ≠ a + 6 → h4 q = h1 q := fun q q1 q2 q3 => by rw [h43 q q1 (by omega), h33 q q1 (by omega), h22 q q1]
  have I0 : st_inv h4 a 0 := ⟨h41, hR1.fr (fun q q1 q2 => f4 q (by omega) (by omega) (by omega)), ⟨_, (h43 _ (by omega) (by omega)).trans h32, fun j hj => by omega⟩, tb_zA h42, fun j hj => by omega⟩
  refine st_step (by decide) I0 (by omega) (by omega) (by omega) (fun h5 I5 F5 => ?_)
  refine st_step (by decide) I5 (by omega) (by omega) (by omega) (fun h6 I6 F6 => ?_)
  refine st_step (by decide) I6 (by omega) (by omega) (by omega) (fun h7 I7 F7 => ?_)
  refine st_step (by decide) I7 (by omega) (by omega) (by omega) (fun h8 I8 F8 => ?_)
  refine st_step (by decide) I8 (by omega) (by omega) (by omega) (fun h9 I9 F9 => ?_)
  simp (disch := first | assumption | omega | exact tb_sm0 | exact tb_sm1 _ | exact tb_sm2 _ _ | exact tb_sm3 _ _ _ | exact tb_sm4 _ _ _ _ | exact Or.inl rfl | exact Or.inr rfl | fail) only [r26_0, r26_1, r26_4, r26_5, r26_8i, r26_8, r26_9, r26_12, r26_15, r26_16, r26_17, r26_20, r26_23, r26_24, r26_25, r26_27, r26_30, r26_31, r26_32, r26_33, r26_34, r26_37, r26_38, r26_41, r26_42, r26_45i, r26_45, r26_46, r26_49, r26_50, r26_53, r26_56, nI_add, pk_mul, e_sub, e_div, tb_nmod, e_dec, e_le, e_lt, e_eq, e_eq0, e_lt0, e_0le, e_0lt, e_le0, if_true, if_false, not_true_eq_false, not_false_eq_true, ite_true, ite_false, Nat.reduceAdd, Nat.reduceMul, Nat.reduceLeDiff, Nat.reduceLT, Nat.reduceEqDiff, Nat.reduceSub, ↓reduceIte, Nat.reduceDiv, Nat.reduceMod]
  obtain ⟨s1, s2, ⟨g, s3, s4⟩, s5, s6⟩ := I9
  refine hQ h9 ⟨by rw [show sp_0 4 = 0 from rfl, show sp_0 0 = 0 from rfl]; exact s1, s2, ⟨g, s3, s4⟩, s5.to rfl (fun j hj => by rw [sp_0_hi (by omega)]), fun j hj => (s6 j hj).z⟩ (fun q hq => by rw [F9 q hq, F8 q hq, F7 q hq, F6 q hq, F5 q hq, f4 q (by omega) (by omega) (by omega), f1 q (by omega)])
def hi_inv (h : tb_heap) (x i : Nat) : Prop := h (x + 82) = some (.inl (1, [.ref (x + 83), .int 0, .int 0])) ∧ (∃ g, h (x + 83) = some (.inr (.inr (4, 4, g))) ∧ ∀ j, j < i → g j = some (tb_ha x j)) ∧ ∀ j, j < i → tb_St h (tb_ha x j) sp_0
theorem hi_step {h : tb_heap} {i bc bs : Nat} (hi : i < 4) (hS : hi_inv h x i) (hL : tb_SX E h x) (hd : 4 ≤ d) (hbc : 27 ≤ bc) (hbs : 398 ≤ bs) (hQ : ∀ h', hi_inv h' x (i + 1) → (∀ q, q < x + 82 ∨ x + 192 ≤ q → h' q = h q) → tb_wp E d 16 14 [.ref (x + 82), .int (nI (i + 1))] [] h' (tb_ha x (i + 1)) (bc - 27) (bs - 398) Q) :
    tb_wp E d 16 14 [.ref (x + 82), .int (nI i)] [] h (tb_ha x i) bc bs Q := by
  obtain ⟨s1, ⟨g, s3, s4⟩, s6⟩ := hS
  have gs : tb_gf h (x + 82) 1 0 = some (.ref (x + 83)) := by unfold tb_gf; rw [s1]; rfl
  have hi5 : ¬ 4 ≤ i := by omega
  simp (disch := first | assumption | omega | exact tb_sm0 | exact tb_sm1 _ | exact tb_sm2 _ _ | exact tb_sm3 _ _ _ | exact tb_sm4 _ _ _ _ | exact Or.inl rfl | exact Or.inr rfl | fail) only [r16_14, r16_15, r16_16, hi5, nI_add, pk_mul, e_sub, e_div, tb_nmod, e_dec, e_le, e_lt, e_eq, e_eq0, e_lt0, e_0le, e_0lt, e_le0, if_true, if_false, not_true_eq_false, not_false_eq_true, ite_true, ite_false, Nat.reduceAdd, Nat.reduceMul, Nat.reduceLeDiff, Nat.reduceLT, Nat.reduceEqDiff, Nat.reduceSub, ↓reduceIte, Nat.reduceDiv, Nat.reduceMod]
  simp (disch := first | assumption | omega | exact tb_sm0 | exact tb_sm1 _ | exact tb_sm2 _ _ | exact tb_sm3 _ _ _ | exact tb_sm4 _ _ _ _ | exact Or.inl rfl | exact Or.inr rfl | fail) only [r16_19, r16_20, r16_23, r16_24, r16_27i, r16_27, r16_28, gs, tb_vl_some, tb_vl_none, tb_wF_some]
  refine state_init tb_up_s ⟨hL.1.1, fun k hk => (tb_up_n (by have := hL.2 k hk; unfold tb_ha; omega)).trans (hL.1.2 k hk)⟩ (fun k hk => by have := hL.2 k hk; unfold tb_ha; omega) (by omega) (fun h2 hB2 hF2 => ?_)
  have fr : ∀ q, q < tb_ha x i ∨ tb_ha x i + 27 ≤ q → h2 q = h q := fun q hq => (hF2 q hq).trans (tb_up_n (by omega))
  simp (disch := first | assumption | omega | exact tb_sm0 | exact tb_sm1 _ | exact tb_sm2 _ _ | exact tb_sm3 _ _ _ | exact tb_sm4 _ _ _ _ | exact Or.inl rfl | exact Or.inr rfl | fail) only [r16_31, tb_vl_some, tb_vl_none, tb_wF_some, Nat.reduceAdd]
  refine tb_ast_ok ((fr _ (by unfold tb_ha; omega)).trans s3) hB2.1 hi (by decide) (fun h3 h31 h32 => ?_)
  simp (disch := first | assumption | omega | exact tb_sm0 | exact tb_sm1 _ | exact tb_sm2 _ _ | exact tb_sm3 _ _ _ | exact tb_sm4 _ _ _ _ | exact Or.inl rfl | exact Or.inr rfl | fail) only [r16_32, r16_35, nI_add]
  have fr3 : ∀ q, q < tb_ha x i ∨ tb_ha x i + 27 ≤ q → q ≠ x + 83 → h3 q = h q := fun q hq h5 => (h32 q h5).trans (fr q hq)
  have ebc : bc - 1 - 26 = bc - 27 := by omega
  have ebs : bs - 5 - 393 = bs - 398 := by omega
  have enx : tb_ha x i + 27 = tb_ha x (i + 1) := by unfold tb_ha; omega
  have q := hQ h3 ⟨(fr3 _ (by unfold tb_ha; omega) (by omega)).trans s1, ⟨_, h31, fun j hj => ?_⟩, fun j hj => ?_⟩ (fun q hq => fr3 q (by unfold tb_ha; omega) (by omega))
  · rw [← enx] at q
    rw [ebc, ebs]; exact q
  · unfold va_up
    by_cases ej : j = i
    · rw [if_pos ej, ej]
    · rw [if_neg ej]; exact s4 j (by omega)
  · by_cases ej : j = i
    · rw [ej]
      exact hB2.fr (fun q q1 q2 => h32 q (by unfold tb_ha at *; omega))
    · exact (s6 j (by omega)).fr (fun q q1 q2 => fr3 q (by unfold tb_ha at *; omega) (by unfold tb_ha at *; omega))
theorem hist_init {h : tb_heap} {hs : Nat → Nat → Nat} (h0 : h (x + 82) = some (.inl (1, [.null, .int 0, .int 0]))) (hL : tb_SX E h x) (hd : 4 ≤ d) (hQ : ∀ h', tb_Hi h' x hs 0 → (∀ q, q < x + 82 ∨ x + 192 ≤ q → h' q = h q) → Q none h' (x + 192)) :
    tb_wp E d 16 0 [.ref (x + 82), .long 0] [] h (x + 82 + 1) 109 1596 Q := by
  simp (disch := first | assumption | omega | exact tb_sm0 | exact tb_sm1 _ | exact tb_sm2 _ _ | exact tb_sm3 _ _ _ | exact tb_sm4 _ _ _ _ | exact Or.inl rfl | exact Or.inr rfl | fail) only [r16_0, r16_1, r16_4, r16_5, r16_6, r16_9, Nat.reduceSub]
  refine tb_ap h0 (by omega) (by simp) (fun h1 h11 h12 h13 => ?_)
  simp (disch := first | assumption | omega | exact tb_sm0 | exact tb_sm1 _ | exact tb_sm2 _ _ | exact tb_sm3 _ _ _ | exact tb_sm4 _ _ _ _ | exact Or.inl rfl | exact Or.inr rfl | fail) only [r16_12, r16_13]
  have I0 : hi_inv h1 x 0 := ⟨h11, ⟨_, h12, fun j hj => by omega⟩, fun j hj => by omega⟩
  have L1 := hL.fr (h' := h1) (fun q hq => h13 q (by omega) (by omega))
  refine hi_step (by decide) I0 L1 hd (by omega) (by omega) (fun h2 I2 F2 => ?_)
  have L2 := L1.fr (fun q hq => F2 q (by omega))
  refine hi_step (by decide) I2 L2 hd (by omega) (by omega) (fun h3 I3 F3 => ?_)
  have L3 := L2.fr (fun q hq => F3 q (by omega))
  refine hi_step (by decide) I3 L3 hd (by omega) (by omega) (fun h4 I4 F4 => ?_)
  have L4 := L3.fr (fun q hq => F4 q (by omega))
  refine hi_step (by decide) I4 L4 hd (by omega) (by omega) (fun h5 I5 F5 => ?_)
  simp (disch := first | assumption | omega | exact tb_sm0 | exact tb_sm1 _ | exact tb_sm2 _ _ | exact tb_sm3 _ _ _ | exact tb_sm4 _ _ _ _ | exact Or.inl rfl | exact Or.inr rfl | fail) only [r16_0, r16_1, r16_4, r16_5, r16_6, r16_9, r16_12, r16_13, r16_14, r16_15, r16_16, r16_19, r16_20, r16_23, r16_24, r16_27i, r16_27, r16_28, r16_31, r16_32, r16_35, r16_38, nI_add, pk_mul, e_sub, e_div, tb_nmod, e_dec, e_le, e_lt, e_eq, e_eq0, e_lt0, e_0le, e_0lt, e_le0, if_true, if_false, not_true_eq_false, not_false_eq_true, ite_true, ite_false, Nat.reduceAdd, Nat.reduceMul, Nat.reduceLeDiff, Nat.reduceLT, Nat.reduceEqDiff, Nat.reduceSub, ↓reduceIte, Nat.reduceDiv, Nat.reduceMod]
  obtain ⟨s1, ⟨g, s3, s4⟩, s6⟩ := I5
  exact hQ h5 ⟨0, fun _ => sp_0, by decide, by decide, s1, ⟨g, s3, s4⟩, s6, fun i hi => by omega⟩ (fun q hq => by rw [F5 q hq, F4 q hq, F3 q hq, F2 q hq, h13 q (by omega) (by omega)])
theorem orders_init {h : tb_heap} {t : Nat} (h0 : h t = some (.inl (2, [.null, .int 0, .int 0, .int 0, .int 0, .int 0, .int 0, .int 0, .int 0]))) (hd : 1 ≤ d) (hQ : ∀ h', tb_OP h' t (fun _ => 0) 0 (true, 0) (0, 0, 0, 0, 0) → (∀ q, q < t ∨ t + 2 ≤ q → h' q = h q) → Q none h' (t + 2)) :
    tb_wp E d 19 0 [.ref t] [] h (t + 1) 1 60 Q := by
  simp (disch := first | assumption | omega | exact tb_sm0 | exact tb_sm1 _ | exact tb_sm2 _ _ | exact tb_sm3 _ _ _ | exact tb_sm4 _ _ _ _ | exact Or.inl rfl | exact Or.inr rfl | fail) only [r19_0, r19_1, r19_4, r19_5, r19_7, r19_9, r19_12]
  refine tb_ap h0 (by omega) (by simp) (fun h1 h11 h12 h13 => ?_)
  try simp (disch := first | assumption | omega | exact tb_sm0 | exact tb_sm1 _ | exact tb_sm2 _ _ | exact tb_sm3 _ _ _ | exact tb_sm4 _ _ _ _ | exact Or.inl rfl | exact Or.inr rfl | fail) only [r19_0, r19_1, r19_4, r19_5, r19_7, r19_9, r19_12]
  exact hQ h1 ⟨h11, tb_zA h12⟩ (fun q hq => h13 q (by omega) (by omega))
def sp_g0 : sp_G := (fun _ => 0, 0, fun _ => 0, 0, -5, -5)
theorem class_init {h : tb_heap} {hs : Nat → Nat → Nat} (h0 : h x = some (.inl (5, [.null, .null, .null, .int 0, .null, .null, .null, .int 0, .int 0]))) (hL : tb_SX E h x) (hd : 5 ≤ d) (hQ : ∀ h', tb_CF h' x sp_0 hs 0 sp_g0 → (∀ q, q < x ∨ x + 198 ≤ q → h' q = h q) → Q none h' (x + 198)) :
    tb_wp E d 43 0 [.ref x] [] h (x + 1) 197 2936 Q := by
  have sl : ∀ (h' : tb_heap) (b : Nat) (c : tb_cell), x ≤ b → tb_SX E h' x → tb_SL E (tb_up h' b c) := fun h' b c hb hL' => ⟨hL'.1.1, fun k hk => (tb_up_n (by have := hL'.2 k hk; omega)).trans (hL'.1.2 k hk)⟩
  have lo : ∀ (b : Nat), x ≤ b → ∀ k, k < 4 → E.1 k < b := fun b hb k hk => Nat.lt_of_lt_of_le (hL.2 k hk) hb
  simp (disch := first | assumption | omega | exact tb_sm0 | exact tb_sm1 _ | exact tb_sm2 _ _ | exact tb_sm3 _ _ _ | exact tb_sm4 _ _ _ _ | exact Or.inl rfl | exact Or.inr rfl | fail) only [r43_0, r43_1, r43_4, r43_5, r43_8i, r43_8, r43_9, Nat.reduceSub]
  refine state_init tb_up_s (sl h _ _ (by omega) hL) (lo _ (by omega)) (by omega) (fun h1 hS1 hF1 => ?_)
  have f1 : ∀ q, q < x + 1 ∨ x + 28 ≤ q → h1 q = h q := fun q hq => (hF1 q (by omega)).trans (tb_up_n (by omega))
  simp (disch := first | assumption | omega | exact tb_sm0 | exact tb_sm1 _ | exact tb_sm2 _ _ | exact tb_sm3 _ _ _ | exact tb_sm4 _ _ _ _ | exact Or.inl rfl | exact Or.inr rfl | fail) only [r43_12, tb_vl_some, tb_vl_none, tb_wF_some, Nat.reduceAdd, Nat.reduceSub]
  refine tb_pf_ok ((f1 x (by omega)).trans h0) (by simp) (fun h2 h21 h22 => ?_)
  have L2 := hL.fr (h' := h2) (fun q hq => by rw [h22 q (by omega), f1 q (by omega)])
  simp (disch := first | assumption | omega | exact tb_sm0 | exact tb_sm1 _ | exact tb_sm2 _ _ | exact tb_sm3 _ _ _ | exact tb_sm4 _ _ _ _ | exact Or.inl rfl | exact Or.inr rfl | fail) only [r43_15, r43_16, r43_19i, r43_19, r43_20, Nat.reduceSub]
  refine state_init tb_up_s (sl h2 _ _ (by omega) L2) (lo _ (by omega)) (by omega) (fun h3 hS3 hF3 => ?_)
  have f3 : ∀ q, q < x + 28 ∨ x + 55 ≤ q → h3 q = h2 q := fun q hq => (hF3 q (by omega)).trans (tb_up_n (by omega))
  simp (disch := first | assumption | omega | exact tb_sm0 | exact tb_sm1 _ | exact tb_sm2 _ _ | exact tb_sm3 _ _ _ | exact tb_sm4 _ _ _ _ | exact Or.inl rfl | exact Or.inr rfl | fail) only [r43_23, tb_vl_some, tb_vl_none, tb_wF_some, Nat.reduceAdd, Nat.reduceSub]
  refine tb_pf_ok ((f3 x (by omega)).trans h21) (by simp) (fun h4 h41 h42 => ?_)
  have L4 := L2.fr (h' := h4) (fun q hq => by rw [h42 q (by omega), f3 q (by omega)])
  simp (disch := first | assumption | omega | exact tb_sm0 | exact tb_sm1 _ | exact tb_sm2 _ _ | exact tb_sm3 _ _ _ | exact tb_sm4 _ _ _ _ | exact Or.inl rfl | exact Or.inr rfl | fail) only [r43_26, r43_27, r43_30i, r43_30, r43_31, Nat.reduceSub]
  refine state_init tb_up_s (sl h4 _ _ (by omega) L4) (lo _ (by omega)) (by omega) (fun h5 hS5 hF5 => ?_)
  have f5 : ∀ q, q < x + 55 ∨ x + 82 ≤ q → h5 q = h4 q := fun q hq => (hF5 q (by omega)).trans (tb_up_n (by omega))
  simp (disch := first | assumption | omega | exact tb_sm0 | exact tb_sm1 _ | exact tb_sm2 _ _ | exact tb_sm3 _ _ _ | exact tb_sm4 _ _ _ _ | exact Or.inl rfl | exact Or.inr rfl | fail) only [r43_34, tb_vl_some, tb_vl_none, tb_wF_some, Nat.reduceAdd, Nat.reduceSub]
  refine tb_pf_ok ((f5 x (by omega)).trans h41) (by simp) (fun h6 h61 h62 => ?_)
  simp (disch := first | assumption | omega | exact tb_sm0 | exact tb_sm1 _ | exact tb_sm2 _ _ | exact tb_sm3 _ _ _ | exact tb_sm4 _ _ _ _ | exact Or.inl rfl | exact Or.inr rfl | fail) only [r43_37, r43_38, r43_39]
  refine tb_pf_ok h61 (by simp) (fun h7 h71 h72 => ?_)
  have L7 := L4.fr (h' := h7) (fun q hq => by rw [h72 q (by omega), h62 q (by omega), f5 q (by omega)])
  simp (disch := first | assumption | omega | exact tb_sm0 | exact tb_sm1 _ | exact tb_sm2 _ _ | exact tb_sm3 _ _ _ | exact tb_sm4 _ _ _ _ | exact Or.inl rfl | exact Or.inr rfl | fail) only [r43_42, r43_43, r43_46i, r43_46, r43_47, Nat.reduceSub]
  refine hist_init (hs := hs) tb_up_s (L7.fr (fun q hq => tb_up_n (by omega))) (by omega) (fun h8 hH8 hF8 => ?_)
  have f8 : ∀ q, q < x + 82 ∨ x + 192 ≤ q → h8 q = h7 q := fun q hq => (hF8 q hq).trans (tb_up_n (by omega))
  simp (disch := first | assumption | omega | exact tb_sm0 | exact tb_sm1 _ | exact tb_sm2 _ _ | exact tb_sm3 _ _ _ | exact tb_sm4 _ _ _ _ | exact Or.inl rfl | exact Or.inr rfl | fail) only [r43_50, tb_vl_some, tb_vl_none, tb_wF_some, Nat.reduceAdd, Nat.reduceSub]
  refine tb_pf_ok ((f8 x (by omega)).trans h71) (by simp) (fun h9 h91 h92 => ?_)
  simp (disch := first | assumption | omega | exact tb_sm0 | exact tb_sm1 _ | exact tb_sm2 _ _ | exact tb_sm3 _ _ _ | exact tb_sm4 _ _ _ _ | exact Or.inl rfl | exact Or.inr rfl | fail) only [r43_53, r43_54, r43_57i, r43_57, r43_58, Nat.reduceSub]
  refine b_init tb_up_s (by omega) (fun h10 hB10 hF10 => ?_)
  have f10 : ∀ q, q < x + 192 ∨ x + 196 ≤ q → h10 q = h9 q := fun q hq => (hF10 q (by omega)).trans (tb_up_n (by omega))
  simp (disch := first | assumption | omega | exact tb_sm0 | exact tb_sm1 _ | exact tb_sm2 _ _ | exact tb_sm3 _ _ _ | exact tb_sm4 _ _ _ _ | exact Or.inl rfl | exact Or.inr rfl | fail) only [r43_61, tb_vl_some, tb_vl_none, tb_wF_some, Nat.reduceAdd, Nat.reduceSub]
  refine tb_pf_ok ((f10 x (by omega)).trans h91) (by simp) (fun h11 h111 h112 => ?_)
  simp (disch := first | assumption | omega | exact tb_sm0 | exact tb_sm1 _ | exact tb_sm2 _ _ | exact tb_sm3 _ _ _ | exact tb_sm4 _ _ _ _ | exact Or.inl rfl | exact Or.inr rfl | fail) only [r43_64, r43_65, r43_68i, r43_68, r43_69, Nat.reduceSub]
  refine orders_init tb_up_s (by omega) (fun h12 hP12 hF12 => ?_)
  have f12 : ∀ q, q < x + 196 ∨ x + 198 ≤ q → h12 q = h11 q := fun q hq => (hF12 q (by omega)).trans (tb_up_n (by omega))
  simp (disch := first | assumption | omega | exact tb_sm0 | exact tb_sm1 _ | exact tb_sm2 _ _ | exact tb_sm3 _ _ _ | exact tb_sm4 _ _ _ _ | exact Or.inl rfl | exact Or.inr rfl | fail) only [r43_72, tb_vl_some, tb_vl_none, tb_wF_some, Nat.reduceAdd, Nat.reduceSub]
  refine tb_pf_ok ((f12 x (by omega)).trans h111) (by simp) (fun h13 h131 h132 => ?_)
  simp (disch := first | assumption | omega | exact tb_sm0 | exact tb_sm1 _ | exact tb_sm2 _ _ | exact tb_sm3 _ _ _ | exact tb_sm4 _ _ _ _ | exact Or.inl rfl | exact Or.inr rfl | fail) only [r43_75, r43_76, r43_78]
  refine tb_pf_ok h131 (by simp) (fun h14 h141 h142 => ?_)
  simp (disch := first | assumption | omega | exact tb_sm0 | exact tb_sm1 _ | exact tb_sm2 _ _ | exact tb_sm3 _ _ _ | exact tb_sm4 _ _ _ _ | exact Or.inl rfl | exact Or.inr rfl | fail) only [r43_81, r43_82, r43_84]
  refine tb_pf_ok h141 (by simp) (fun h15 h151 h152 => ?_)
  try simp (disch := first | assumption | omega | exact tb_sm0 | exact tb_sm1 _ | exact tb_sm2 _ _ | exact tb_sm3 _ _ _ | exact tb_sm4 _ _ _ _ | exact Or.inl rfl | exact Or.inr rfl | fail) only [r43_87]
  have t15 : ∀ q, q ≠ x → h15 q = h12 q := fun q hq => by rw [h152 q hq, h142 q hq, h132 q hq]
  have t11 : ∀ q, q ≠ x → q < x + 196 ∨ x + 198 ≤ q → h15 q = h10 q := fun q q1 q2 => by rw [t15 q q1, f12 q q2, h112 q q1]
  have t9 : ∀ q, q ≠ x → q < x + 192 ∨ x + 198 ≤ q → h15 q = h8 q := fun q q1 q2 => by rw [t11 q q1 (by omega), f10 q (by omega), h92 q q1]
  have t7 : ∀ q, q ≠ x → q < x + 82 ∨ x + 198 ≤ q → h15 q = h5 q := fun q q1 q2 => by rw [t9 q q1 (by omega), f8 q (by omega), h72 q q1, h62 q q1]
  have t5 : ∀ q, q ≠ x → q < x + 55 ∨ x + 198 ≤ q → h15 q = h3 q := fun q q1 q2 => by rw [t7 q q1 (by omega), f5 q (by omega), h42 q q1]
  have t3 : ∀ q, q ≠ x → q < x + 28 ∨ x + 198 ≤ q → h15 q = h1 q := fun q q1 q2 => by rw [t5 q q1 (by omega), f3 q (by omega), h22 q q1]
  refine hQ h15 ⟨h151, hS1.fr (fun q q1 q2 => t3 q (by omega) (by omega)), ⟨sp_0, hS3.fr (fun q q1 q2 => t5 q (by omega) (by omega))⟩, ⟨sp_0, hS5.fr (fun q q1 q2 => t7 q (by omega) (by omega)), fun q => absurd (show (0 : Nat) = 1 from q) (by decide)⟩, hH8.fr (fun q q1 q2 => t9 q (by omega) (by omega)), ⟨_, _, _, hB10.fr (fun q q1 q2 => t11 q (by omega) (by omega))⟩, ⟨_, _, hP12.fr (fun q q1 q2 => t15 q (by omega)), by decide⟩⟩ (fun q hq => by rw [t3 q (by omega) (by omega), f1 q (by omega)])
end N2
