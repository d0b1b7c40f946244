/-! BIRTH of states, of the class, of the reference -/
theorem tb_Bq.z {h : tb_heap} {b i : Nat} (hB : tb_Bq h b (fun _ => 0) (fun _ => 0) 0) : tb_B h b sp_0 i := by
  obtain ⟨a1, a2, a3, a4⟩ := hB
  refine ⟨?_, a2.to rfl (fun j hj => ?_), a3.to rfl (fun j hj => ?_), a4.to rfl (fun j hj => ?_)⟩
  · rw [sp_0_hi (by omega), sp_0_hi (by omega), sp_0_hi (by omega)]; exact a1
  · rw [sp_0_hi (by omega)]
  · unfold tb_mv; rw [sp_0_hi (by omega)]
  · rw [sp_0_hi (by omega)]
section N2
variable {E : tb_env} {d : Nat} {Q : Option Value → tb_heap → Nat → Prop} {a x : Nat}
/-- the state while its boards are being born -/
def st_inv (h : tb_heap) (a i : Nat) : Prop := h a = some (.inl (4, [.ref (a + 1), .ref (a + 5), .ref (a + 6), .int 0, .int 0])) ∧ tb_Ru h (a + 1) sp_0 ∧ (∃ g, h (a + 5) = some (.inr (.inr (0, 5, g))) ∧ ∀ j, j < i → g j = some (tb_ba a j)) ∧ tb_isA h (a + 6) 0 4 (fun _ => nI 0) ∧ ∀ j, j < i → tb_Bq h (tb_ba a j) (fun _ => 0) (fun _ => 0) 0
theorem st_step {h : tb_heap} {i bc bs : Nat} (hi : i < 5) (hS : st_inv h a i) (hd : 2 ≤ d) (hbc : 4 ≤ bc) (hbs : 74 ≤ bs) (hQ : ∀ h', st_inv h' a (i + 1) → (∀ q, q < a ∨ a + 27 ≤ q → h' q = h q) → tb_wp E d 38 32 [.ref a, .int (nI (i + 1))] [] h' (tb_ba a (i + 1)) (bc - 4) (bs - 74) Q) :
    tb_wp E d 38 32 [.ref a, .int (nI i)] [] h (tb_ba a i) bc bs Q := by
  obtain ⟨s1, s2, ⟨g, s3, s4⟩, s5, s6⟩ := hS
  have gs : tb_gf h a 4 1 = some (.ref (a + 5)) := by unfold tb_gf; rw [s1]; rfl
  have hi5 : ¬ 5 ≤ i := by omega
  have e1 : tb_ba a i ≠ a := by unfold tb_ba; omega
  simp (disch := first | assumption | omega | exact tb_sm0 | exact tb_sm1 _ | exact tb_sm2 _ _ | exact tb_sm3 _ _ _ | exact tb_sm4 _ _ _ _ | exact Or.inl rfl | exact Or.inr rfl | fail) only [r38_32, r38_33, r38_34, hi5, nI_add, pk_mul, e_sub, e_div, tb_nmod, e_dec, e_le, e_lt, e_eq, e_eq0, e_lt0, e_0le, e_0lt, e_le0, if_true, if_false, not_true_eq_false, not_false_eq_true, ite_true, ite_false, Nat.reduceAdd, Nat.reduceMul, Nat.reduceLeDiff, Nat.reduceLT, Nat.reduceEqDiff, Nat.reduceSub, ↓reduceIte, Nat.reduceDiv, Nat.reduceMod]
  simp (disch := first | assumption | omega | exact tb_sm0 | exact tb_sm1 _ | exact tb_sm2 _ _ | exact tb_sm3 _ _ _ | exact tb_sm4 _ _ _ _ | exact Or.inl rfl | exact Or.inr rfl | fail) only [r38_37, r38_38, r38_41, r38_42, r38_45i, r38_45, r38_46, gs, tb_vl_some, tb_vl_none, tb_wF_some]
  refine b_init tb_up_s (by omega) (fun h2 hB2 hF2 => ?_)
  have fr : ∀ q, q < tb_ba a i ∨ tb_ba a i + 4 ≤ q → h2 q = h q := fun q hq => (hF2 q hq).trans (tb_up_n (by omega))
  simp (disch := first | assumption | omega | exact tb_sm0 | exact tb_sm1 _ | exact tb_sm2 _ _ | exact tb_sm3 _ _ _ | exact tb_sm4 _ _ _ _ | exact Or.inl rfl | exact Or.inr rfl | fail) only [r38_49, tb_vl_some, tb_vl_none, tb_wF_some, Nat.reduceAdd]
  refine tb_ast_ok ((fr _ (by unfold tb_ba; omega)).trans s3) hB2.1 hi (by decide) (fun h3 h31 h32 => ?_)
  simp (disch := first | assumption | omega | exact tb_sm0 | exact tb_sm1 _ | exact tb_sm2 _ _ | exact tb_sm3 _ _ _ | exact tb_sm4 _ _ _ _ | exact Or.inl rfl | exact Or.inr rfl | fail) only [r38_50, r38_53, nI_add]
  have fr3 : ∀ q, q < tb_ba a i ∨ tb_ba a i + 4 ≤ q → q ≠ a + 5 → h3 q = h q := fun q hq h5 => (h32 q h5).trans (fr q hq)
  have ebc : bc - 1 - 3 = bc - 4 := by omega
  have ebs : bs - 6 - 68 = bs - 74 := by omega
  have enx : tb_ba a i + 4 = tb_ba a (i + 1) := by unfold tb_ba; omega
  have q := hQ h3 ⟨(fr3 a (by unfold tb_ba; omega) (by omega)).trans s1, s2.fr (fun q q1 q2 => fr3 q (by unfold tb_ba; omega) (by omega)), ⟨_, h31, fun j hj => ?_⟩, s5.to (fr3 _ (by unfold tb_ba; omega) (by omega)) (fun _ _ => rfl), fun j hj => ?_⟩ (fun q hq => fr3 q (by unfold tb_ba; omega) (by omega))
  · rw [← enx] at q
    first | exact q | (rw [ebc, ebs]; exact q) | (simp only [ebc, ebs]; exact q)
  · unfold va_up
    by_cases ej : j = i
    · rw [if_pos ej, ej]
    · rw [if_neg ej]; exact s4 j (by omega)
  · by_cases ej : j = i
    · rw [ej]
      exact hB2.fr (fun q q1 q2 => h32 q (by unfold tb_ba at *; omega))
    · exact (s6 j (by omega)).fr (fun q q1 q2 => fr3 q (by unfold tb_ba at *; omega) (by unfold tb_ba at *; omega))
theorem state_init {h : tb_heap} (h0 : h a = some (.inl (4, [.null, .null, .null, .int 0, .int 0]))) (hL : tb_SL E h) (hlo : ∀ k, k < 4 → E.1 k < a) (hd : 3 ≤ d) (hQ : ∀ h', tb_St h' a sp_0 → (∀ q, q < a ∨ a + 27 ≤ q → h' q = h q) → Q none h' (a + 27)) :
    tb_wp E d 38 0 [.ref a, .long 0] [] h (a + 1) 26 393 Q := by
  simp (disch := first | assumption | omega | exact tb_sm0 | exact tb_sm1 _ | exact tb_sm2 _ _ | exact tb_sm3 _ _ _ | exact tb_sm4 _ _ _ _ | exact Or.inl rfl | exact Or.inr rfl | fail) only [r38_0, r38_1, r38_4, r38_5, r38_8i, r38_8, r38_9]
  refine rules_init tb_up_s ⟨hL.1, fun k hk => (tb_up_n (by have := hlo k hk; omega)).trans (hL.2 k hk)⟩ (fun k hk => by have := hlo k hk; omega) (by omega) (fun h1 hR1 hF1 => ?_)
  have f1 : ∀ q, q < a + 1 ∨ a + 5 ≤ q → h1 q = h q := fun q hq => (hF1 q (by omega)).trans (tb_up_n (by omega))
  simp (disch := first | assumption | omega | exact tb_sm0 | exact tb_sm1 _ | exact tb_sm2 _ _ | exact tb_sm3 _ _ _ | exact tb_sm4 _ _ _ _ | exact Or.inl rfl | exact Or.inr rfl | fail) only [r38_12, tb_vl_some, tb_vl_none, tb_wF_some, Nat.reduceAdd, Nat.reduceSub]
  refine tb_pf_ok ((f1 a (by omega)).trans h0) (by simp) (fun h2 h21 h22 => ?_)
  simp (disch := first | assumption | omega | exact tb_sm0 | exact tb_sm1 _ | exact tb_sm2 _ _ | exact tb_sm3 _ _ _ | exact tb_sm4 _ _ _ _ | exact Or.inl rfl | exact Or.inr rfl | fail) only [r38_15, r38_16, r38_17, r38_20, Nat.reduceSub]
  refine tb_ap h21 (by omega) (by simp) (fun h3 h31 h32 h33 => ?_)
  simp (disch := first | assumption | omega | exact tb_sm0 | exact tb_sm1 _ | exact tb_sm2 _ _ | exact tb_sm3 _ _ _ | exact tb_sm4 _ _ _ _ | exact Or.inl rfl | exact Or.inr rfl | fail) only [r38_23, r38_24, r38_25, r38_27, Nat.reduceSub]
  refine tb_ap h31 (by omega) (by simp) (fun h4 h41 h42 h43 => ?_)
  simp (disch := first | assumption | omega | exact tb_sm0 | exact tb_sm1 _ | exact tb_sm2 _ _ | exact tb_sm3 _ _ _ | exact tb_sm4 _ _ _ _ | exact Or.inl rfl | exact Or.inr rfl | fail) only [r38_30, r38_31]
  have f4 : ∀ q, q ≠ a → q ≠ a + 5 → q ≠ a + 6 → h4 q = h1 q := fun q q1 q2 q3 => by rw [h43 q q1 (by omega), h33 q q1 (by omega), h22 q q1]
  have I0 : st_inv h4 a 0 := ⟨h41, hR1.fr (fun q q1 q2 => f4 q (by omega) (by omega) (by omega)), ⟨_, (h43 _ (by omega) (by omega)).trans h32, fun j hj => by omega⟩, tb_zA h42, fun j hj => by omega⟩
  refine st_step (by decide) I0 (by omega) (by omega) (by omega) (fun h5 I5 F5 => ?_)
  refine st_step (by decide) I5 (by omega) (by omega) (by omega) (fun h6 I6 F6 => ?_)
  refine st_step (by decide) I6 (by omega) (by omega) (by omega) (fun h7 I7 F7 => ?_)
  refine st_step (by decide) I7 (by omega) (by omega) (by omega) (fun h8 I8 F8 => ?_)
  refine st_step (by decide) I8 (by omega) (by omega) (by omega) (fun h9 I9 F9 => ?_)
  simp (disch := first | assumption | omega | exact tb_sm0 | exact tb_sm1 _ | exact tb_sm2 _ _ | exact tb_sm3 _ _ _ | exact tb_sm4 _ _ _ _ | exact Or.inl rfl | exact Or.inr rfl | fail) only [r38_0, r38_1, r38_4, r38_5, r38_8i, r38_8, r38_9, r38_12, r38_15, r38_16, r38_17, r38_20, r38_23, r38_24, r38_25, r38_27, r38_30, r38_31, r38_32, r38_33, r38_34, r38_37, r38_38, r38_41, r38_42, r38_45i, r38_45, r38_46, r38_49, r38_50, r38_53, r38_56, nI_add, pk_mul, e_sub, e_div, tb_nmod, e_dec, e_le, e_lt, e_eq, e_eq0, e_lt0, e_0le, e_0lt, e_le0, if_true, if_false, not_true_eq_false, not_false_eq_true, ite_true, ite_false, Nat.reduceAdd, Nat.reduceMul, Nat.reduceLeDiff, Nat.reduceLT, Nat.reduceEqDiff, Nat.reduceSub, ↓reduceIte, Nat.reduceDiv, Nat.reduceMod]
  obtain ⟨s1, s2, ⟨g, s3, s4⟩, s5, s6⟩ := I9
  refine hQ h9 ⟨by rw [show sp_0 4 = 0 from rfl, show sp_0 0 = 0 from rfl]; exact s1, s2, ⟨g, s3, s4⟩, s5.to rfl (fun j hj => by rw [sp_0_hi (by omega)]), fun j hj => (s6 j hj).z⟩ (fun q hq => by rw [F9 q hq, F8 q hq, F7 q hq, F6 q hq, F5 q hq, f4 q (by omega) (by omega) (by omega), f1 q (by omega)])
def hi_inv (h : tb_heap) (x i : Nat) : Prop := h (x + 82) = some (.inl (1, [.ref (x + 83), .int 0, .int 0])) ∧ (∃ g, h (x + 83) = some (.inr (.inr (4, 4, g))) ∧ ∀ j, j < i → g j = some (tb_ha x j)) ∧ ∀ j, j < i → tb_St h (tb_ha x j) sp_0
theorem hi_step {h : tb_heap} {i bc bs : Nat} (hi : i < 4) (hS : hi_inv h x i) (hL : tb_SX E h x) (hd : 4 ≤ d) (hbc : 27 ≤ bc) (hbs : 398 ≤ bs) (hQ : ∀ h', hi_inv h' x (i + 1) → (∀ q, q < x + 82 ∨ x + 192 ≤ q → h' q = h q) → tb_wp E d 16 14 [.ref (x + 82), .int (nI (i + 1))] [] h' (tb_ha x (i + 1)) (bc - 27) (bs - 398) Q) :
    tb_wp E d 16 14 [.ref (x + 82), .int (nI i)] [] h (tb_ha x i) bc bs Q := by
  obtain ⟨s1, ⟨g, s3, s4⟩, s6⟩ := hS
  have gs : tb_gf h (x + 82) 1 0 = some (.ref (x + 83)) := by unfold tb_gf; rw [s1]; rfl
  have hi5 : ¬ 4 ≤ i := by omega
  simp (disch := first | assumption | omega | exact tb_sm0 | exact tb_sm1 _ | exact tb_sm2 _ _ | exact tb_sm3 _ _ _ | exact tb_sm4 _ _ _ _ | exact Or.inl rfl | exact Or.inr rfl | fail) only [r16_14, r16_15, r16_16, hi5, nI_add, pk_mul, e_sub, e_div, tb_nmod, e_dec, e_le, e_lt, e_eq, e_eq0, e_lt0, e_0le, e_0lt, e_le0, if_true, if_false, not_true_eq_false, not_false_eq_true, ite_true, ite_false, Nat.reduceAdd, Nat.reduceMul, Nat.reduceLeDiff, Nat.reduceLT, Nat.reduceEqDiff, Nat.reduceSub, ↓reduceIte, Nat.reduceDiv, Nat.reduceMod]
  simp (disch := first | assumption | omega | exact tb_sm0 | exact tb_sm1 _ | exact tb_sm2 _ _ | exact tb_sm3 _ _ _ | exact tb_sm4 _ _ _ _ | exact Or.inl rfl | exact Or.inr rfl | fail) only [r16_19, r16_20, r16_23, r16_24, r16_27i, r16_27, r16_28, gs, tb_vl_some, tb_vl_none, tb_wF_some]
  refine state_init tb_up_s ⟨hL.1.1, fun k hk => (tb_up_n (by have := hL.2 k hk; unfold tb_ha; omega)).trans (hL.1.2 k hk)⟩ (fun k hk => by have := hL.2 k hk; unfold tb_ha; omega) (by omega) (fun h2 hB2 hF2 => ?_)
  have fr : ∀ q, q < tb_ha x i ∨ tb_ha x i + 27 ≤ q → h2 q = h q := fun q hq => (hF2 q hq).trans (tb_up_n (by omega))
  simp (disch := first | assumption | omega | exact tb_sm0 | exact tb_sm1 _ | exact tb_sm2 _ _ | exact tb_sm3 _ _ _ | exact tb_sm4 _ _ _ _ | exact Or.inl rfl | exact Or.inr rfl | fail) only [r16_31, tb_vl_some, tb_vl_none, tb_wF_some, Nat.reduceAdd]
  refine tb_ast_ok ((fr _ (by unfold tb_ha; omega)).trans s3) hB2.1 hi (by decide) (fun h3 h31 h32 => ?_)
  simp (disch := first | assumption | omega | exact tb_sm0 | exact tb_sm1 _ | exact tb_sm2 _ _ | exact tb_sm3 _ _ _ | exact tb_sm4 _ _ _ _ | exact Or.inl rfl | exact Or.inr rfl | fail) only [r16_32, r16_35, nI_add]
  have fr3 : ∀ q, q < tb_ha x i ∨ tb_ha x i + 27 ≤ q → q ≠ x + 83 → h3 q = h q := fun q hq h5 => (h32 q h5).trans (fr q hq)
  have ebc : bc - 1 - 26 = bc - 27 := by omega
  have ebs : bs - 5 - 393 = bs - 398 := by omega
  have enx : tb_ha x i + 27 = tb_ha x (i + 1) := by unfold tb_ha; omega
  have q := hQ h3 ⟨(fr3 _ (by unfold tb_ha; omega) (by omega)).trans s1, ⟨_, h31, fun j hj => ?_⟩, fun j hj => ?_⟩ (fun q hq => fr3 q (by unfold tb_ha; omega) (by omega))
  · rw [← enx] at q
    rw [ebc, ebs]; exact q
  · unfold va_up
    by_cases ej : j = i
    · rw [if_pos ej, ej]
    · rw [if_neg ej]; exact s4 j (by omega)
  · by_cases ej : j = i
    · rw [ej]
      exact hB2.fr (fun q q1 q2 => h32 q (by unfold tb_ha at *; omega))
    · exact (s6 j (by omega)).fr (fun q q1 q2 => fr3 q (by unfold tb_ha at *; omega) (by unfold tb_ha at *; omega))
theorem hist_init {h : tb_heap} {hs : Nat → Nat → Nat} (h0 : h (x + 82) = some (.inl (1, [.null, .int 0, .int 0]))) (hL : tb_SX E h x) (hd : 4 ≤ d) (hQ : ∀ h', tb_Hi h' x hs 0 → (∀ q, q < x + 82 ∨ x + 192 ≤ q → h' q = h q) → Q none h' (x + 192)) :
    tb_wp E d 16 0 [.ref (x + 82), .long 0] [] h (x + 82 + 1) 109 1596 Q := by
  simp (disch := first | assumption | omega | exact tb_sm0 | exact tb_sm1 _ | exact tb_sm2 _ _ | exact tb_sm3 _ _ _ | exact tb_sm4 _ _ _ _ | exact Or.inl rfl | exact Or.inr rfl | fail) only [r16_0, r16_1, r16_4, r16_5, r16_6, r16_9, Nat.reduceSub]
  refine tb_ap h0 (by omega) (by simp) (fun h1 h11 h12 h13 => ?_)
  simp (disch := first | assumption | omega | exact tb_sm0 | exact tb_sm1 _ | exact tb_sm2 _ _ | exact tb_sm3 _ _ _ | exact tb_sm4 _ _ _ _ | exact Or.inl rfl | exact Or.inr rfl | fail) only [r16_12, r16_13]
  have I0 : hi_inv h1 x 0 := ⟨h11, ⟨_, h12, fun j hj => by omega⟩, fun j hj => by omega⟩
  have L1 := hL.fr (h' := h1) (fun q hq => h13 q (by omega) (by omega))
  refine hi_step (by decide) I0 L1 hd (by omega) (by omega) (fun h2 I2 F2 => ?_)
  have L2 := L1.fr (fun q hq => F2 q (by omega))
  refine hi_step (by decide) I2 L2 hd (by omega) (by omega) (fun h3 I3 F3 => ?_)
  have L3 := L2.fr (fun q hq => F3 q (by omega))
  refine hi_step (by decide) I3 L3 hd (by omega) (by omega) (fun h4 I4 F4 => ?_)
  have L4 := L3.fr (fun q hq => F4 q (by omega))
  refine hi_step (by decide) I4 L4 hd (by omega) (by omega) (fun h5 I5 F5 => ?_)
  simp (disch := first | assumption | omega | exact tb_sm0 | exact tb_sm1 _ | exact tb_sm2 _ _ | exact tb_sm3 _ _ _ | exact tb_sm4 _ _ _ _ | exact Or.inl rfl | exact Or.inr rfl | fail) only [r16_0, r16_1, r16_4, r16_5, r16_6, r16_9, r16_12, r16_13, r16_14, r16_15, r16_16, r16_19, r16_20, r16_23, r16_24, r16_27i, r16_27, r16_28, r16_31, r16_32, r16_35, r16_38, nI_add, pk_mul, e_sub, e_div, tb_nmod, e_dec, e_le, e_lt, e_eq, e_eq0, e_lt0, e_0le, e_0lt, e_le0, if_true, if_false, not_true_eq_false, not_false_eq_true, ite_true, ite_false, Nat.reduceAdd, Nat.reduceMul, Nat.reduceLeDiff, Nat.reduceLT, Nat.reduceEqDiff, Nat.reduceSub, ↓reduceIte, Nat.reduceDiv, Nat.reduceMod]
  obtain ⟨s1, ⟨g, s3, s4⟩, s6⟩ := I5
  exact hQ h5 ⟨0, fun _ => sp_0, by decide, by decide, s1, ⟨g, s3, s4⟩, s6, fun i hi => by omega⟩ (fun q hq => by rw [F5 q hq, F4 q hq, F3 q hq, F2 q hq, h13 q (by omega) (by omega)])
theorem orders_init {h : tb_heap} {t : Nat} (h0 : h t = some (.inl (2, [.null, .int 0, .int 0, .int 0, .int 0, .int 0, .int 0, .int 0, .int 0]))) (hd : 1 ≤ d) (hQ : ∀ h', tb_OP h' t (fun _ => 0) 0 (true, 0) (0, 0, 0, 0, 0) → (∀ q, q < t ∨ t + 2 ≤ q → h' q = h q) → Q none h' (t + 2)) :
    tb_wp E d 19 0 [.ref t] [] h (t + 1) 1 60 Q := by
  simp (disch := first | assumption | omega | exact tb_sm0 | exact tb_sm1 _ | exact tb_sm2 _ _ | exact tb_sm3 _ _ _ | exact tb_sm4 _ _ _ _ | exact Or.inl rfl | exact Or.inr rfl | fail) only [r19_0, r19_1, r19_4, r19_5, r19_7, r19_9, r19_12]
  refine tb_ap h0 (by omega) (by simp) (fun h1 h11 h12 h13 => ?_)
  try simp (disch := first | assumption | omega | exact tb_sm0 | exact tb_sm1 _ | exact tb_sm2 _ _ | exact tb_sm3 _ _ _ | exact tb_sm4 _ _ _ _ | exact Or.inl rfl | exact Or.inr rfl | fail) only [r19_0, r19_1, r19_4, r19_5, r19_7, r19_9, r19_12]
  exact hQ h1 ⟨h11, tb_zA h12⟩ (fun q hq => h13 q (by omega) (by omega))
def sp_g0 : sp_G := (fun _ => 0, 0, fun _ => 0, 0, -5, -5)
theorem class_init {h : tb_heap} {hs : Nat → Nat → Nat} (h0 : h x = some (.inl (5, [.null, .null, .null, .int 0, .null, .null, .null, .int 0, .int 0]))) (hL : tb_SX E h x) (hd : 5 ≤ d) (hQ : ∀ h', tb_CF h' x sp_0 hs 0 sp_g0 → (∀ q, q < x ∨ x + 198 ≤ q → h' q = h q) → Q none h' (x + 198)) :
    tb_wp E d 55 0 [.ref x] [] h (x + 1) 197 2936 Q := by
  have sl : ∀ (h' : tb_heap) (b : Nat) (c : tb_cell), x ≤ b → tb_SX E h' x → tb_SL E (tb_up h' b c) := fun h' b c hb hL' => ⟨hL'.1.1, fun k hk => (tb_up_n (by have := hL'.2 k hk; omega)).trans (hL'.1.2 k hk)⟩
  have lo : ∀ (b : Nat), x ≤ b → ∀ k, k < 4 → E.1 k < b := fun b hb k hk => Nat.lt_of_lt_of_le (hL.2 k hk) hb
  simp (disch := first | assumption | omega | exact tb_sm0 | exact tb_sm1 _ | exact tb_sm2 _ _ | exact tb_sm3 _ _ _ | exact tb_sm4 _ _ _ _ | exact Or.inl rfl | exact Or.inr rfl | fail) only [r55_0, r55_1, r55_4, r55_5, r55_8i, r55_8, r55_9, Nat.reduceSub]
  refine state_init tb_up_s (sl h _ _ (by omega) hL) (lo _ (by omega)) (by omega) (fun h1 hS1 hF1 => ?_)
  have f1 : ∀ q, q < x + 1 ∨ x + 28 ≤ q → h1 q = h q := fun q hq => (hF1 q (by omega)).trans (tb_up_n (by omega))
  simp (disch := first | assumption | omega | exact tb_sm0 | exact tb_sm1 _ | exact tb_sm2 _ _ | exact tb_sm3 _ _ _ | exact tb_sm4 _ _ _ _ | exact Or.inl rfl | exact Or.inr rfl | fail) only [r55_12, tb_vl_some, tb_vl_none, tb_wF_some, Nat.reduceAdd, Nat.reduceSub]
  refine tb_pf_ok ((f1 x (by omega)).trans h0) (by simp) (fun h2 h21 h22 => ?_)
  have L2 := hL.fr (h' := h2) (fun q hq => by rw [h22 q (by omega), f1 q (by omega)])
  simp (disch := first | assumption | omega | exact tb_sm0 | exact tb_sm1 _ | exact tb_sm2 _ _ | exact tb_sm3 _ _ _ | exact tb_sm4 _ _ _ _ | exact Or.inl rfl | exact Or.inr rfl | fail) only [r55_15, r55_16, r55_19i, r55_19, r55_20, Nat.reduceSub]
  refine state_init tb_up_s (sl h2 _ _ (by omega) L2) (lo _ (by omega)) (by omega) (fun h3 hS3 hF3 => ?_)
  have f3 : ∀ q, q < x + 28 ∨ x + 55 ≤ q → h3 q = h2 q := fun q hq => (hF3 q (by omega)).trans (tb_up_n (by omega))
  simp (disch := first | assumption | omega | exact tb_sm0 | exact tb_sm1 _ | exact tb_sm2 _ _ | exact tb_sm3 _ _ _ | exact tb_sm4 _ _ _ _ | exact Or.inl rfl | exact Or.inr rfl | fail) only [r55_23, tb_vl_some, tb_vl_none, tb_wF_some, Nat.reduceAdd, Nat.reduceSub]
  refine tb_pf_ok ((f3 x (by omega)).trans h21) (by simp) (fun h4 h41 h42 => ?_)
  have L4 := L2.fr (h' := h4) (fun q hq => by rw [h42 q (by omega), f3 q (by omega)])
  simp (disch := first | assumption | omega | exact tb_sm0 | exact tb_sm1 _ | exact tb_sm2 _ _ | exact tb_sm3 _ _ _ | exact tb_sm4 _ _ _ _ | exact Or.inl rfl | exact Or.inr rfl | fail) only [r55_26, r55_27, r55_30i, r55_30, r55_31, Nat.reduceSub]
  refine state_init tb_up_s (sl h4 _ _ (by omega) L4) (lo _ (by omega)) (by omega) (fun h5 hS5 hF5 => ?_)
  have f5 : ∀ q, q < x + 55 ∨ x + 82 ≤ q → h5 q = h4 q := fun q hq => (hF5 q (by omega)).trans (tb_up_n (by omega))
  simp (disch := first | assumption | omega | exact tb_sm0 | exact tb_sm1 _ | exact tb_sm2 _ _ | exact tb_sm3 _ _ _ | exact tb_sm4 _ _ _ _ | exact Or.inl rfl | exact Or.inr rfl | fail) only [r55_34, tb_vl_some, tb_vl_none, tb_wF_some, Nat.reduceAdd, Nat.reduceSub]
  refine tb_pf_ok ((f5 x (by omega)).trans h41) (by simp) (fun h6 h61 h62 => ?_)
  simp (disch := first | assumption | omega | exact tb_sm0 | exact tb_sm1 _ | exact tb_sm2 _ _ | exact tb_sm3 _ _ _ | exact tb_sm4 _ _ _ _ | exact Or.inl rfl | exact Or.inr rfl | fail) only [r55_37, r55_38, r55_39]
  refine tb_pf_ok h61 (by simp) (fun h7 h71 h72 => ?_)
  have L7 := L4.fr (h' := h7) (fun q hq => by rw [h72 q (by omega), h62 q (by omega), f5 q (by omega)])
  simp (disch := first | assumption | omega | exact tb_sm0 | exact tb_sm1 _ | exact tb_sm2 _ _ | exact tb_sm3 _ _ _ | exact tb_sm4 _ _ _ _ | exact Or.inl rfl | exact Or.inr rfl | fail) only [r55_42, r55_43, r55_46i, r55_46, r55_47, Nat.reduceSub]
  refine hist_init (hs := hs) tb_up_s (L7.fr (fun q hq => tb_up_n (by omega))) (by omega) (fun h8 hH8 hF8 => ?_)
  have f8 : ∀ q, q < x + 82 ∨ x + 192 ≤ q → h8 q = h7 q := fun q hq => (hF8 q hq).trans (tb_up_n (by omega))
  simp (disch := first | assumption | omega | exact tb_sm0 | exact tb_sm1 _ | exact tb_sm2 _ _ | exact tb_sm3 _ _ _ | exact tb_sm4 _ _ _ _ | exact Or.inl rfl | exact Or.inr rfl | fail) only [r55_50, tb_vl_some, tb_vl_none, tb_wF_some, Nat.reduceAdd, Nat.reduceSub]
  refine tb_pf_ok ((f8 x (by omega)).trans h71) (by simp) (fun h9 h91 h92 => ?_)
  simp (disch := first | assumption | omega | exact tb_sm0 | exact tb_sm1 _ | exact tb_sm2 _ _ | exact tb_sm3 _ _ _ | exact tb_sm4 _ _ _ _ | exact Or.inl rfl | exact Or.inr rfl | fail) only [r55_53, r55_54, r55_57i, r55_57, r55_58, Nat.reduceSub]
  refine b_init tb_up_s (by omega) (fun h10 hB10 hF10 => ?_)
  have f10 : ∀ q, q < x + 192 ∨ x + 196 ≤ q → h10 q = h9 q := fun q hq => (hF10 q (by omega)).trans (tb_up_n (by omega))
  simp (disch := first | assumption | omega | exact tb_sm0 | exact tb_sm1 _ | exact tb_sm2 _ _ | exact tb_sm3 _ _ _ | exact tb_sm4 _ _ _ _ | exact Or.inl rfl | exact Or.inr rfl | fail) only [r55_61, tb_vl_some, tb_vl_none, tb_wF_some, Nat.reduceAdd, Nat.reduceSub]
  refine tb_pf_ok ((f10 x (by omega)).trans h91) (by simp) (fun h11 h111 h112 => ?_)
  simp (disch := first | assumption | omega | exact tb_sm0 | exact tb_sm1 _ | exact tb_sm2 _ _ | exact tb_sm3 _ _ _ | exact tb_sm4 _ _ _ _ | exact Or.inl rfl | exact Or.inr rfl | fail) only [r55_64, r55_65, r55_68i, r55_68, r55_69, Nat.reduceSub]
  refine orders_init tb_up_s (by omega) (fun h12 hP12 hF12 => ?_)
  have f12 : ∀ q, q < x + 196 ∨ x + 198 ≤ q → h12 q = h11 q := fun q hq => (hF12 q (by omega)).trans (tb_up_n (by omega))
  simp (disch := first | assumption | omega | exact tb_sm0 | exact tb_sm1 _ | exact tb_sm2 _ _ | exact tb_sm3 _ _ _ | exact tb_sm4 _ _ _ _ | exact Or.inl rfl | exact Or.inr rfl | fail) only [r55_72, tb_vl_some, tb_vl_none, tb_wF_some, Nat.reduceAdd, Nat.reduceSub]
  refine tb_pf_ok ((f12 x (by omega)).trans h111) (by simp) (fun h13 h131 h132 => ?_)
  simp (disch := first | assumption | omega | exact tb_sm0 | exact tb_sm1 _ | exact tb_sm2 _ _ | exact tb_sm3 _ _ _ | exact tb_sm4 _ _ _ _ | exact Or.inl rfl | exact Or.inr rfl | fail) only [r55_75, r55_76, r55_78]
  refine tb_pf_ok h131 (by simp) (fun h14 h141 h142 => ?_)
  simp (disch := first | assumption | omega | exact tb_sm0 | exact tb_sm1 _ | exact tb_sm2 _ _ | exact tb_sm3 _ _ _ | exact tb_sm4 _ _ _ _ | exact Or.inl rfl | exact Or.inr rfl | fail) only [r55_81, r55_82, r55_84]
  refine tb_pf_ok h141 (by simp) (fun h15 h151 h152 => ?_)
  try simp (disch := first | assumption | omega | exact tb_sm0 | exact tb_sm1 _ | exact tb_sm2 _ _ | exact tb_sm3 _ _ _ | exact tb_sm4 _ _ _ _ | exact Or.inl rfl | exact Or.inr rfl | fail) only [r55_87]
  have t15 : ∀ q, q ≠ x → h15 q = h12 q := fun q hq => by rw [h152 q hq, h142 q hq, h132 q hq]
  have t11 : ∀ q, q ≠ x → q < x + 196 ∨ x + 198 ≤ q → h15 q = h10 q := fun q q1 q2 => by rw [t15 q q1, f12 q q2, h112 q q1]
  have t9 : ∀ q, q ≠ x → q < x + 192 ∨ x + 198 ≤ q → h15 q = h8 q := fun q q1 q2 => by rw [t11 q q1 (by omega), f10 q (by omega), h92 q q1]
  have t7 : ∀ q, q ≠ x → q < x + 82 ∨ x + 198 ≤ q → h15 q = h5 q := fun q q1 q2 => by rw [t9 q q1 (by omega), f8 q (by omega), h72 q q1, h62 q q1]
  have t5 : ∀ q, q ≠ x → q < x + 55 ∨ x + 198 ≤ q → h15 q = h3 q := fun q q1 q2 => by rw [t7 q q1 (by omega), f5 q (by omega), h42 q q1]
  have t3 : ∀ q, q ≠ x → q < x + 28 ∨ x + 198 ≤ q → h15 q = h1 q := fun q q1 q2 => by rw [t5 q q1 (by omega), f3 q (by omega), h22 q q1]
  refine hQ h15 ⟨h151, hS1.fr (fun q q1 q2 => t3 q (by omega) (by omega)), ⟨sp_0, hS3.fr (fun q q1 q2 => t5 q (by omega) (by omega))⟩, ⟨sp_0, hS5.fr (fun q q1 q2 => t7 q (by omega) (by omega)), fun q => absurd (show (0 : Nat) = 1 from q) (by decide)⟩, hH8.fr (fun q q1 q2 => t9 q (by omega) (by omega)), ⟨_, _, _, hB10.fr (fun q q1 q2 => t11 q (by omega) (by omega))⟩, ⟨_, _, hP12.fr (fun q q1 q2 => t15 q (by omega)), by decide⟩⟩ (fun q hq => by rw [t3 q (by omega) (by omega), f1 q (by omega)])
theorem model_init {h : tb_heap} {m : Nat} {hs : Nat → Nat → Nat} (h0 : h m = some (.inl (6, [.null, .null, .null, .null, .int 0, .null, .int 0, .null, .int 0, .int 0, .int 0, .null, .int 0, .int 0, .null, .int 0]))) (hd : 1 ≤ d) (hQ : ∀ h', tb_MF h' m sp_0 hs 0 sp_g0 → (∀ q, q < m ∨ m + 9 ≤ q → h' q = h q) → Q none h' (m + 9)) :
    tb_wp E d 90 0 [.ref m, .long 0] [] h (m + 1) 8 3041 Q := by
  simp (disch := first | assumption | omega | exact tb_sm0 | exact tb_sm1 _ | exact tb_sm2 _ _ | exact tb_sm3 _ _ _ | exact tb_sm4 _ _ _ _ | exact Or.inl rfl | exact Or.inr rfl | fail) only [r90_0, r90_1, r90_4, r90_5, r90_8, r90_10, Nat.reduceSub]
  refine tb_ap h0 (by omega) (by simp) (fun h1 h11 h12 h13 => ?_)
  simp (disch := first | assumption | omega | exact tb_sm0 | exact tb_sm1 _ | exact tb_sm2 _ _ | exact tb_sm3 _ _ _ | exact tb_sm4 _ _ _ _ | exact Or.inl rfl | exact Or.inr rfl | fail) only [r90_13, r90_14, r90_17, r90_19, Nat.reduceSub]
  refine tb_ap h11 (by omega) (by simp) (fun h2 h21 h22 h23 => ?_)
  simp (disch := first | assumption | omega | exact tb_sm0 | exact tb_sm1 _ | exact tb_sm2 _ _ | exact tb_sm3 _ _ _ | exact tb_sm4 _ _ _ _ | exact Or.inl rfl | exact Or.inr rfl | fail) only [r90_22, r90_23, r90_26, r90_28, Nat.reduceSub]
  refine tb_ap h21 (by omega) (by simp) (fun h3 h31 h32 h33 => ?_)
  simp (disch := first | assumption | omega | exact tb_sm0 | exact tb_sm1 _ | exact tb_sm2 _ _ | exact tb_sm3 _ _ _ | exact tb_sm4 _ _ _ _ | exact Or.inl rfl | exact Or.inr rfl | fail) only [r90_31, r90_32, r90_35, r90_37, Nat.reduceSub]
  refine tb_ap h31 (by omega) (by simp) (fun h4 h41 h42 h43 => ?_)
  simp (disch := first | assumption | omega | exact tb_sm0 | exact tb_sm1 _ | exact tb_sm2 _ _ | exact tb_sm3 _ _ _ | exact tb_sm4 _ _ _ _ | exact Or.inl rfl | exact Or.inr rfl | fail) only [r90_40, r90_41, r90_44, r90_46, Nat.reduceSub]
  refine tb_ap h41 (by omega) (by simp) (fun h5 h51 h52 h53 => ?_)
  simp (disch := first | assumption | omega | exact tb_sm0 | exact tb_sm1 _ | exact tb_sm2 _ _ | exact tb_sm3 _ _ _ | exact tb_sm4 _ _ _ _ | exact Or.inl rfl | exact Or.inr rfl | fail) only [r90_49, r90_50, r90_52, r90_54, Nat.reduceSub]
  refine tb_ap h51 (by omega) (by simp) (fun h6 h61 h62 h63 => ?_)
  simp (disch := first | assumption | omega | exact tb_sm0 | exact tb_sm1 _ | exact tb_sm2 _ _ | exact tb_sm3 _ _ _ | exact tb_sm4 _ _ _ _ | exact Or.inl rfl | exact Or.inr rfl | fail) only [r90_57, r90_58, r90_60]
  refine tb_pf_ok h61 (by simp) (fun h7 h71 h72 => ?_)
  simp (disch := first | assumption | omega | exact tb_sm0 | exact tb_sm1 _ | exact tb_sm2 _ _ | exact tb_sm3 _ _ _ | exact tb_sm4 _ _ _ _ | exact Or.inl rfl | exact Or.inr rfl | fail) only [r90_63, r90_64, r90_66]
  refine tb_pf_ok h71 (by simp) (fun h8 h81 h82 => ?_)
  simp (disch := first | assumption | omega | exact tb_sm0 | exact tb_sm1 _ | exact tb_sm2 _ _ | exact tb_sm3 _ _ _ | exact tb_sm4 _ _ _ _ | exact Or.inl rfl | exact Or.inr rfl | fail) only [r90_69, r90_70, r90_72, r90_74, Nat.reduceSub]
  refine tb_ap h81 (by omega) (by simp) (fun h9 h91 h92 h93 => ?_)
  simp (disch := first | assumption | omega | exact tb_sm0 | exact tb_sm1 _ | exact tb_sm2 _ _ | exact tb_sm3 _ _ _ | exact tb_sm4 _ _ _ _ | exact Or.inl rfl | exact Or.inr rfl | fail) only [r90_77, r90_78, r90_79, r90_81, Nat.reduceSub]
  refine tb_ap h91 (by omega) (by simp) (fun h10 h101 h102 h103 => ?_)
  have hMG : tb_MG h10 m (fun _ => 0) (nI 0) sp_g0 (nI 0) (nI 0) (nI 0) (fun _ => nI 0) (fun _ => nI 0) (fun _ => nI 0) (fun _ => nI 0) (fun _ => 0) := by
    refine ⟨h101, tb_zA ?_, tb_zA ?_, tb_zA ?_, tb_zA ?_, tb_zA ?_, tb_zA ?_, tb_zA ?_, tb_zA ?_⟩
    · rw [h103 _ (by omega) (by omega), h93 _ (by omega) (by omega), h82 _ (by omega), h72 _ (by omega), h63 _ (by omega) (by omega), h53 _ (by omega) (by omega), h43 _ (by omega) (by omega), h33 _ (by omega) (by omega), h23 _ (by omega) (by omega)]; exact h12
    · rw [h103 _ (by omega) (by omega), h93 _ (by omega) (by omega), h82 _ (by omega), h72 _ (by omega), h63 _ (by omega) (by omega), h53 _ (by omega) (by omega), h43 _ (by omega) (by omega), h33 _ (by omega) (by omega)]; exact h22
    · rw [h103 _ (by omega) (by omega), h93 _ (by omega) (by omega), h82 _ (by omega), h72 _ (by omega), h63 _ (by omega) (by omega), h53 _ (by omega) (by omega), h43 _ (by omega) (by omega)]; exact h32
    · rw [h103 _ (by omega) (by omega), h93 _ (by omega) (by omega), h82 _ (by omega), h72 _ (by omega), h63 _ (by omega) (by omega), h53 _ (by omega) (by omega)]; exact h42
    · rw [h103 _ (by omega) (by omega), h93 _ (by omega) (by omega), h82 _ (by omega), h72 _ (by omega), h63 _ (by omega) (by omega)]; exact h52
    · rw [h103 _ (by omega) (by omega), h93 _ (by omega) (by omega), h82 _ (by omega), h72 _ (by omega)]; exact h62
    · rw [h103 _ (by omega) (by omega)]; exact h92
    · exact h102
  have fr : ∀ q, q < m ∨ m + 9 ≤ q → h10 q = h q := fun q hq => by rw [h103 _ (by omega) (by omega), h93 _ (by omega) (by omega), h82 _ (by omega), h72 _ (by omega), h63 _ (by omega) (by omega), h53 _ (by omega) (by omega), h43 _ (by omega) (by omega), h33 _ (by omega) (by omega), h23 _ (by omega) (by omega), h13 _ (by omega) (by omega)]
  have st : ∀ (h' : tb_heap) (s : Nat → Nat) (j v : Nat) (K : tb_heap → Prop), j < 368 → tb_MG h' m s (nI 0) sp_g0 (nI 0) (nI 0) (nI 0) (fun _ => nI 0) (fun _ => nI 0) (fun _ => nI 0) (fun _ => nI 0) (fun _ => 0) → (∀ h'', tb_MG h'' m (va_up s j v) (nI 0) sp_g0 (nI 0) (nI 0) (nI 0) (fun _ => nI 0) (fun _ => nI 0) (fun _ => nI 0) (fun _ => nI 0) (fun _ => 0) → (∀ q, q < m ∨ m + 9 ≤ q → h'' q = h' q) → K h'') → tb_wF (tb_stv h' 0 (m + 1) (nI j) (nI v)) K := by
    intro h' s j v K hj hG hK
    refine hG.S.st hj (fun h2 hS hF => hK h2 (hG.upS hS (hG.2.2.2.2.2.2.2.1.to (hF _ (by omega)) (fun _ _ => rfl)) (fun q q1 _ => hF q q1)) (fun q hq => hF q (by omega)))
  have g10 := hMG.1.g
  simp (disch := first | assumption | omega | exact tb_sm0 | exact tb_sm1 _ | exact tb_sm2 _ _ | exact tb_sm3 _ _ _ | exact tb_sm4 _ _ _ _ | exact Or.inl rfl | exact Or.inr rfl | fail) only [r90_0, r90_1, r90_4, r90_5, r90_8, r90_10, r90_13, r90_14, r90_17, r90_19, r90_22, r90_23, r90_26, r90_28, r90_31, r90_32, r90_35, r90_37, r90_40, r90_41, r90_44, r90_46, r90_49, r90_50, r90_52, r90_54, r90_57, r90_58, r90_60, r90_63, r90_64, r90_66, r90_69, r90_70, r90_72, r90_74, r90_77, r90_78, r90_79, r90_81, r90_84, r90_85, r90_88, r90_89, r90_90, r90_91, r90_92, r90_95, r90_96, r90_98, r90_99, r90_100, r90_103, r90_104, r90_106, r90_107, r90_108, r90_110, r90_111, r90_114, r90_115, r90_118, r90_119, r90_120, r90_121, r90_123, r90_124, r90_125, r90_126, r90_127, r90_128, r90_131, r90_134, g10, tb_vl_some, tb_vl_none, tb_wF_some, Nat.reduceSub]
  refine st _ _ 1 5 _ (by decide) hMG (fun k1 G1 F1 => ?_)
  have g1 := G1.1.g
  simp (disch := first | assumption | omega | exact tb_sm0 | exact tb_sm1 _ | exact tb_sm2 _ _ | exact tb_sm3 _ _ _ | exact tb_sm4 _ _ _ _ | exact Or.inl rfl | exact Or.inr rfl | fail) only [r90_0, r90_1, r90_4, r90_5, r90_8, r90_10, r90_13, r90_14, r90_17, r90_19, r90_22, r90_23, r90_26, r90_28, r90_31, r90_32, r90_35, r90_37, r90_40, r90_41, r90_44, r90_46, r90_49, r90_50, r90_52, r90_54, r90_57, r90_58, r90_60, r90_63, r90_64, r90_66, r90_69, r90_70, r90_72, r90_74, r90_77, r90_78, r90_79, r90_81, r90_84, r90_85, r90_88, r90_89, r90_90, r90_91, r90_92, r90_95, r90_96, r90_98, r90_99, r90_100, r90_103, r90_104, r90_106, r90_107, r90_108, r90_110, r90_111, r90_114, r90_115, r90_118, r90_119, r90_120, r90_121, r90_123, r90_124, r90_125, r90_126, r90_127, r90_128, r90_131, r90_134, g1, tb_vl_some, tb_vl_none, tb_wF_some]
  refine st _ _ 2 10 _ (by decide) G1 (fun k2 G2 F2 => ?_)
  have g2 := G2.1.g
  simp (disch := first | assumption | omega | exact tb_sm0 | exact tb_sm1 _ | exact tb_sm2 _ _ | exact tb_sm3 _ _ _ | exact tb_sm4 _ _ _ _ | exact Or.inl rfl | exact Or.inr rfl | fail) only [r90_0, r90_1, r90_4, r90_5, r90_8, r90_10, r90_13, r90_14, r90_17, r90_19, r90_22, r90_23, r90_26, r90_28, r90_31, r90_32, r90_35, r90_37, r90_40, r90_41, r90_44, r90_46, r90_49, r90_50, r90_52, r90_54, r90_57, r90_58, r90_60, r90_63, r90_64, r90_66, r90_69, r90_70, r90_72, r90_74, r90_77, r90_78, r90_79, r90_81, r90_84, r90_85, r90_88, r90_89, r90_90, r90_91, r90_92, r90_95, r90_96, r90_98, r90_99, r90_100, r90_103, r90_104, r90_106, r90_107, r90_108, r90_110, r90_111, r90_114, r90_115, r90_118, r90_119, r90_120, r90_121, r90_123, r90_124, r90_125, r90_126, r90_127, r90_128, r90_131, r90_134, g2, tb_vl_some, tb_vl_none, tb_wF_some]
  refine st _ _ 3 20 _ (by decide) G2 (fun k3 G3 F3 => ?_)
  have g3 := G3.1.g
  simp (disch := first | assumption | omega | exact tb_sm0 | exact tb_sm1 _ | exact tb_sm2 _ _ | exact tb_sm3 _ _ _ | exact tb_sm4 _ _ _ _ | exact Or.inl rfl | exact Or.inr rfl | fail) only [r90_0, r90_1, r90_4, r90_5, r90_8, r90_10, r90_13, r90_14, r90_17, r90_19, r90_22, r90_23, r90_26, r90_28, r90_31, r90_32, r90_35, r90_37, r90_40, r90_41, r90_44, r90_46, r90_49, r90_50, r90_52, r90_54, r90_57, r90_58, r90_60, r90_63, r90_64, r90_66, r90_69, r90_70, r90_72, r90_74, r90_77, r90_78, r90_79, r90_81, r90_84, r90_85, r90_88, r90_89, r90_90, r90_91, r90_92, r90_95, r90_96, r90_98, r90_99, r90_100, r90_103, r90_104, r90_106, r90_107, r90_108, r90_109, r90_110, r90_111, r90_114, r90_115, r90_118, r90_119, r90_120, r90_121, r90_123, r90_124, r90_125, r90_126, r90_127, r90_128, r90_131, r90_134, g3, tb_vl_some, tb_vl_none, tb_wF_some, nI_add, pk_mul, e_sub, e_div, tb_nmod, e_dec, e_le, e_lt, e_eq, e_eq0, e_lt0, e_0le, e_0lt, e_le0, if_true, if_false, not_true_eq_false, not_false_eq_true, ite_true, ite_false, Nat.reduceAdd, Nat.reduceMul, Nat.reduceLeDiff, Nat.reduceLT, Nat.reduceEqDiff, Nat.reduceSub, ↓reduceIte, Nat.reduceDiv, Nat.reduceMod]
  refine st _ _ 5 20 _ (by decide) G3 (fun k4 G4 F4 => ?_)
  have g4 := G4.1.g
  simp (disch := first | assumption | omega | exact tb_sm0 | exact tb_sm1 _ | exact tb_sm2 _ _ | exact tb_sm3 _ _ _ | exact tb_sm4 _ _ _ _ | exact Or.inl rfl | exact Or.inr rfl | fail) only [r90_0, r90_1, r90_4, r90_5, r90_8, r90_10, r90_13, r90_14, r90_17, r90_19, r90_22, r90_23, r90_26, r90_28, r90_31, r90_32, r90_35, r90_37, r90_40, r90_41, r90_44, r90_46, r90_49, r90_50, r90_52, r90_54, r90_57, r90_58, r90_60, r90_63, r90_64, r90_66, r90_69, r90_70, r90_72, r90_74, r90_77, r90_78, r90_79, r90_81, r90_84, r90_85, r90_88, r90_89, r90_90, r90_91, r90_92, r90_95, r90_96, r90_98, r90_99, r90_100, r90_103, r90_104, r90_106, r90_107, r90_108, r90_109, r90_110, r90_111, r90_114, r90_115, r90_118, r90_119, r90_120, r90_121, r90_123, r90_124, r90_125, r90_126, r90_127, r90_128, r90_131, r90_134, g4, tb_vl_some, tb_vl_none, tb_wF_some, nI_add, pk_mul, e_sub, e_div, tb_nmod, e_dec, e_le, e_lt, e_eq, e_eq0, e_lt0, e_0le, e_0lt, e_le0, if_true, if_false, not_true_eq_false, not_false_eq_true, ite_true, ite_false, Nat.reduceAdd, Nat.reduceMul, Nat.reduceLeDiff, Nat.reduceLT, Nat.reduceEqDiff, Nat.reduceSub, ↓reduceIte, Nat.reduceDiv, Nat.reduceMod]
  refine st _ _ 6 25 _ (by decide) G4 (fun k5 G5 F5 => ?_)
  have g5 := G5.1.g
  simp (disch := first | assumption | omega | exact tb_sm0 | exact tb_sm1 _ | exact tb_sm2 _ _ | exact tb_sm3 _ _ _ | exact tb_sm4 _ _ _ _ | exact Or.inl rfl | exact Or.inr rfl | fail) only [r90_0, r90_1, r90_4, r90_5, r90_8, r90_10, r90_13, r90_14, r90_17, r90_19, r90_22, r90_23, r90_26, r90_28, r90_31, r90_32, r90_35, r90_37, r90_40, r90_41, r90_44, r90_46, r90_49, r90_50, r90_52, r90_54, r90_57, r90_58, r90_60, r90_63, r90_64, r90_66, r90_69, r90_70, r90_72, r90_74, r90_77, r90_78, r90_79, r90_81, r90_84, r90_85, r90_88, r90_89, r90_90, r90_91, r90_92, r90_95, r90_96, r90_98, r90_99, r90_100, r90_103, r90_104, r90_106, r90_107, r90_108, r90_109, r90_110, r90_111, r90_114, r90_115, r90_118, r90_119, r90_120, r90_121, r90_123, r90_124, r90_125, r90_126, r90_127, r90_128, r90_131, r90_134, g5, tb_vl_some, tb_vl_none, tb_wF_some, nI_add, pk_mul, e_sub, e_div, tb_nmod, e_dec, e_le, e_lt, e_eq, e_eq0, e_lt0, e_0le, e_0lt, e_le0, if_true, if_false, not_true_eq_false, not_false_eq_true, ite_true, ite_false, Nat.reduceAdd, Nat.reduceMul, Nat.reduceLeDiff, Nat.reduceLT, Nat.reduceEqDiff, Nat.reduceSub, ↓reduceIte, Nat.reduceDiv, Nat.reduceMod]
  refine st _ _ 7 30 _ (by decide) G5 (fun k6 G6 F6 => ?_)
  have g6 := G6.1.g
  simp (disch := first | assumption | omega | exact tb_sm0 | exact tb_sm1 _ | exact tb_sm2 _ _ | exact tb_sm3 _ _ _ | exact tb_sm4 _ _ _ _ | exact Or.inl rfl | exact Or.inr rfl | fail) only [r90_0, r90_1, r90_4, r90_5, r90_8, r90_10, r90_13, r90_14, r90_17, r90_19, r90_22, r90_23, r90_26, r90_28, r90_31, r90_32, r90_35, r90_37, r90_40, r90_41, r90_44, r90_46, r90_49, r90_50, r90_52, r90_54, r90_57, r90_58, r90_60, r90_63, r90_64, r90_66, r90_69, r90_70, r90_72, r90_74, r90_77, r90_78, r90_79, r90_81, r90_84, r90_85, r90_88, r90_89, r90_90, r90_91, r90_92, r90_95, r90_96, r90_98, r90_99, r90_100, r90_103, r90_104, r90_106, r90_107, r90_108, r90_109, r90_110, r90_111, r90_114, r90_115, r90_118, r90_119, r90_120, r90_121, r90_123, r90_124, r90_125, r90_126, r90_127, r90_128, r90_131, r90_134, g6, tb_vl_some, tb_vl_none, tb_wF_some, nI_add, pk_mul, e_sub, e_div, tb_nmod, e_dec, e_le, e_lt, e_eq, e_eq0, e_lt0, e_0le, e_0lt, e_le0, if_true, if_false, not_true_eq_false, not_false_eq_true, ite_true, ite_false, Nat.reduceAdd, Nat.reduceMul, Nat.reduceLeDiff, Nat.reduceLT, Nat.reduceEqDiff, Nat.reduceSub, ↓reduceIte, Nat.reduceDiv, Nat.reduceMod]
  refine st _ _ 8 35 _ (by decide) G6 (fun k7 G7 F7 => ?_)
  try simp (disch := first | assumption | omega | exact tb_sm0 | exact tb_sm1 _ | exact tb_sm2 _ _ | exact tb_sm3 _ _ _ | exact tb_sm4 _ _ _ _ | exact Or.inl rfl | exact Or.inr rfl | fail) only [r90_0, r90_1, r90_4, r90_5, r90_8, r90_10, r90_13, r90_14, r90_17, r90_19, r90_22, r90_23, r90_26, r90_28, r90_31, r90_32, r90_35, r90_37, r90_40, r90_41, r90_44, r90_46, r90_49, r90_50, r90_52, r90_54, r90_57, r90_58, r90_60, r90_63, r90_64, r90_66, r90_69, r90_70, r90_72, r90_74, r90_77, r90_78, r90_79, r90_81, r90_84, r90_85, r90_88, r90_89, r90_90, r90_91, r90_92, r90_95, r90_96, r90_98, r90_99, r90_100, r90_103, r90_104, r90_106, r90_107, r90_108, r90_109, r90_110, r90_111, r90_114, r90_115, r90_118, r90_119, r90_120, r90_121, r90_123, r90_124, r90_125, r90_126, r90_127, r90_128, r90_131, r90_134, nI_add, pk_mul, e_sub, e_div, tb_nmod, e_dec, e_le, e_lt, e_eq, e_eq0, e_lt0, e_0le, e_0lt, e_le0, if_true, if_false, not_true_eq_false, not_false_eq_true, ite_true, ite_false, Nat.reduceAdd, Nat.reduceMul, Nat.reduceLeDiff, Nat.reduceLT, Nat.reduceEqDiff, Nat.reduceSub, ↓reduceIte, Nat.reduceDiv, Nat.reduceMod]
  exact hQ k7 ⟨_, _, _, _, _, _, _, _, G7, by decide, fun i hi => by omega⟩ (fun q hq => by rw [F7 q hq, F6 q hq, F5 q hq, F4 q hq, F3 q hq, F2 q hq, F1 q hq, fr q hq])
end N2
