/-! BIRTH -/
def sp_0 : Nat → Nat := va_up (va_up (va_up (va_up (va_up (va_up (va_up (fun _ => 0) 1 5) 2 10) 3 20) 5 20) 6 25) 7 30) 8 35
theorem sp_0_hi {j : Nat} (h : 9 ≤ j) : sp_0 j = 0 := by
  unfold sp_0
  rw [va_up_n (by omega), va_up_n (by omega), va_up_n (by omega), va_up_n (by omega), va_up_n (by omega), va_up_n (by omega), va_up_n (by omega)]
theorem W_0 : sp_W sp_0 := by
  have on : ∀ b c, sp_on sp_0 b c = 0 := fun b c => by unfold sp_on; rw [sp_0_hi (by omega), sp_0_hi (by omega), sp_0_hi (by omega), sp_0_hi (by omega)]
  refine ⟨⟨fun b c _ _ => by rw [on]; omega, by decide, fun k hk => ?_, fun b hb => by rw [sp_0_hi (by omega)]; omega, fun j hj => by rw [sp_0_hi (by omega)]; omega⟩, ⟨by decide, fun b k hb hk => by rw [sp_0_hi (by omega)]; omega⟩⟩
  rcases (by omega : k = 0 ∨ k = 1 ∨ k = 2 ∨ k = 3) with rfl | rfl | rfl | rfl <;> decide
theorem tb_up_s {h : tb_heap} {a : Nat} {c : tb_cell} : tb_up h a c a = some c := by unfold tb_up; rw [if_pos rfl]
theorem tb_up_n {h : tb_heap} {a q : Nat} {c : tb_cell} (hq : q ≠ a) : tb_up h a c q = h q := by unfold tb_up; rw [if_neg hq]
theorem tb_ap {h : tb_heap} {a nx ci k : Nat} {c : tb_cell} {v : Value} {fs : List Value} (h0 : h a = some (.inl (ci, fs))) (ha : a ≠ nx) (hk : k < fs.length) {K : tb_heap → Prop} (hK : ∀ h', h' a = some (.inl (ci, fs.set k v)) → h' nx = some c → (∀ q, q ≠ a → q ≠ nx → h' q = h q) → K h') : tb_wF (tb_pf (tb_up h nx c) a ci k v) K := by
  refine tb_pf_ok ((tb_up_n ha).trans h0) hk (fun h' h1 h2 => hK h' h1 ((h2 nx (Ne.symm ha)).trans tb_up_s) (fun q q1 q2 => (h2 q q1).trans (tb_up_n q2)))
theorem tb_ast_ok {h : tb_heap} {a v ci n i : Nat} {g : Nat → Option Nat} {fs : List Value} (h0 : h a = some (.inr (.inr (ci, n, g)))) (h1 : h v = some (.inl (ci, fs))) (hi : i < n) (hn : n < 2 ^ 31) {K : tb_heap → Prop} (hK : ∀ h', h' a = some (.inr (.inr (ci, n, va_up g i (some v)))) → (∀ q, q ≠ a → h' q = h q) → K h') : tb_wF (tb_ast h a (nI i) v) K := by
  have e : tb_ast h a (nI i) v = some (tb_up h a (.inr (.inr (ci, n, va_up g i (some v))))) := by
    unfold tb_ast
    rw [h0, h1]
    dsimp only
    rw [nI_clamp (by omega), if_pos rfl, if_neg (fun q => q.elim (fun q => by rw [e_lt0 (by omega)] at q; exact q) (fun q => by omega))]
  rw [e]
  exact hK _ tb_up_s (fun q hq => tb_up_n hq)
theorem tb_zA {h : tb_heap} {a ty n : Nat} (h0 : h a = some (.inr (.inl (ty, n, fun _ => 0)))) : tb_isA h a ty n (fun _ => nI 0) := ⟨_, h0, fun _ _ => nI_0.symm⟩
theorem tb_SL.ld0 {E : tb_env} {h : tb_heap} (hL : tb_SL E h) : (∀ {w : Nat}, w < 4 → ∀ {K : Int32 → Prop}, tb_wF (tb_ld E h 0 (E.1 0) (nI w)) K = K (nI (sp_0 (5 + w)))) ∧ (∀ {w : Nat}, w < 3 → ∀ {K : Int32 → Prop}, tb_wF (tb_ld E h 0 (E.1 1) (nI w)) K = K (nI (sp_0 (1 + w)))) := by
  obtain ⟨⟨s0, s1, s2, s3⟩, hn⟩ := hL
  refine ⟨fun {w} hw {K} => ?_, fun {w} hw {K} => ?_⟩
  · have e : tb_ld E h 0 (E.1 0) (nI w) = some (tb_fG w) := by
      unfold tb_ld tb_ra
      rw [hn 0 (by decide)]
      dsimp only
      rw [if_pos rfl, s0]
      dsimp only
      rw [nI_clamp (by omega), if_neg (fun q => q.elim (fun q => by rw [e_lt0 (by omega)] at q; exact q) (fun q => by omega))]
    rw [e]
    rcases (by omega : w = 0 ∨ w = 1 ∨ w = 2 ∨ w = 3) with rfl | rfl | rfl | rfl <;> rfl
  · have e : tb_ld E h 0 (E.1 1) (nI w) = some (tb_fS w) := by
      unfold tb_ld tb_ra
      rw [hn 1 (by decide)]
      dsimp only
      rw [if_pos rfl, s1]
      dsimp only
      rw [nI_clamp (by omega), if_neg (fun q => q.elim (fun q => by rw [e_lt0 (by omega)] at q; exact q) (fun q => by omega))]
    rw [e]
    rcases (by omega : w = 0 ∨ w = 1 ∨ w = 2) with rfl | rfl | rfl <;> rfl
section N1
variable {E : tb_env} {d : Nat} {h : tb_heap} {Q : Option Value → tb_heap → Nat → Prop} {a b x : Nat}
theorem b_init (h0 : h b = some (.inl (0, [.null, .null, .null, .int 0, .int 0, .int 0]))) (hd : 1 ≤ d) (hQ : ∀ h', tb_Bq h' b (fun _ => 0) (fun _ => 0) 0 → (∀ q, q < b ∨ b + 4 ≤ q → h' q = h q) → Q none h' (b + 4)) :
    tb_wp E d 0 0 [.ref b] [] h (b + 1) 3 68 Q := by
  simp (disch := first | assumption | omega | exact tb_sm0 | exact tb_sm1 _ | exact tb_sm2 _ _ | exact tb_sm3 _ _ _ | exact tb_sm4 _ _ _ _ | exact Or.inl rfl | exact Or.inr rfl | fail) only [r0_0, r0_1, r0_4, r0_5, r0_7, r0_9, r0_12, r0_13, r0_15, r0_17, r0_20, r0_21, r0_22, r0_24, r0_27]
  refine tb_ap h0 (by omega) (by simp) (fun h1 h11 h12 h13 => ?_)
  refine tb_ap h11 (by omega) (by simp) (fun h2 h21 h22 h23 => ?_)
  refine tb_ap h21 (by omega) (by simp) (fun h3 h31 h32 h33 => ?_)
  try simp (disch := first | assumption | omega | exact tb_sm0 | exact tb_sm1 _ | exact tb_sm2 _ _ | exact tb_sm3 _ _ _ | exact tb_sm4 _ _ _ _ | exact Or.inl rfl | exact Or.inr rfl | fail) only [r0_0, r0_1, r0_4, r0_5, r0_7, r0_9, r0_12, r0_13, r0_15, r0_17, r0_20, r0_21, r0_22, r0_24, r0_27]
  refine hQ h3 ⟨h31, tb_zA (by rw [h33 _ (by omega) (by omega), h23 _ (by omega) (by omega)]; exact h12), tb_zA (by rw [h33 _ (by omega) (by omega)]; exact h22), tb_zA h32⟩ (fun q hq => by rw [h33 q (by omega) (by omega), h23 q (by omega) (by omega), h13 q (by omega) (by omega)])
theorem rules_init (h0 : h a = some (.inl (3, [.null, .null, .null]))) (hL : tb_SL E h) (hlo : ∀ k, k < 4 → E.1 k < a) (hd : 2 ≤ d) (hQ : ∀ h', tb_Ru h' a sp_0 → (∀ q, q < a ∨ a + 4 ≤ q → h' q = h q) → Q none h' (a + 4)) :
    tb_wp E d 20 0 [.ref a, .long 0] [] h (a + 1) 3 11 Q := by
  simp (disch := first | assumption | omega | exact tb_sm0 | exact tb_sm1 _ | exact tb_sm2 _ _ | exact tb_sm3 _ _ _ | exact tb_sm4 _ _ _ _ | exact Or.inl rfl | exact Or.inr rfl | fail) only [r20_0, r20_1, r20_4, r20_5, r20_6, r20_8, r20_11, r20_12, r20_13, r20_15, r20_18, r20_19, r20_20, r20_22, r20_26, r20_28, r20_29, r20_32, r20_33, r20_36, r20_37, r20_40, r20_41, r20_42, r20_43, r20_46, r20_49, r20_50, r20_52, r20_53, r20_56, r20_57, r20_60, r20_61, r20_64, r20_65, r20_66, r20_67, r20_70, r20_73, r20_74, r20_77, nI_add, pk_mul, e_sub, e_div, tb_nmod, e_dec, e_le, e_lt, e_eq, e_eq0, e_lt0, e_0le, e_0lt, e_le0, if_true, if_false, not_true_eq_false, not_false_eq_true, ite_true, ite_false, Nat.reduceAdd, Nat.reduceMul, Nat.reduceLeDiff, Nat.reduceLT, Nat.reduceEqDiff, Nat.reduceSub, ↓reduceIte, Nat.reduceDiv, Nat.reduceMod]
  refine tb_ap h0 (by omega) (by simp) (fun h1 h11 h12 h13 => ?_)
  refine tb_ap h11 (by omega) (by simp) (fun h2 h21 h22 h23 => ?_)
  refine tb_ap h21 (by omega) (by simp) (fun h3 h31 h32 h33 => ?_)
  have obj : ∀ h' : tb_heap, h' a = h3 a → tb_gf h' a 3 0 = some (.ref (a + 1)) ∧ tb_gf h' a 3 1 = some (.ref (a + 2)) ∧ tb_gf h' a 3 2 = some (.ref (a + 3)) := fun h' e => by
    unfold tb_gf
    rw [e, h31]
    exact ⟨rfl, rfl, rfl⟩
  have fr3 : ∀ q, q < a ∨ a + 4 ≤ q → h3 q = h q := fun q hq => by rw [h33 q (by omega) (by omega), h23 q (by omega) (by omega), h13 q (by omega) (by omega)]
  have A3 : tb_isA h3 (a + 1) 0 4 (fun _ => nI 0) := tb_zA (by rw [h33 _ (by omega) (by omega), h23 _ (by omega) (by omega)]; exact h12)
  have B3 : tb_isA h3 (a + 2) 0 3 (fun _ => nI 0) := tb_zA (by rw [h33 _ (by omega) (by omega)]; exact h22)
  have C3 : tb_isA h3 (a + 3) 0 4 (fun _ => nI 0) := tb_zA h32
  have sl : ∀ h' : tb_heap, (∀ q, q < a → h' q = h3 q) → tb_SL E h' := fun h' hF => ⟨hL.1, fun k hk => by rw [hF _ (hlo k hk), fr3 _ (Or.inl (hlo k hk))]; exact hL.2 k hk⟩
  have l3 := (sl h3 (fun _ _ => rfl)).ld0
  have g3 := obj h3 rfl
  have L0 := fun {w : Nat} (hw : w < 4) {K : Int32 → Prop} => l3.1 hw (K := K)
  simp (disch := first | assumption | omega | exact tb_sm0 | exact tb_sm1 _ | exact tb_sm2 _ _ | exact tb_sm3 _ _ _ | exact tb_sm4 _ _ _ _ | exact Or.inl rfl | exact Or.inr rfl | fail) only [r20_0, r20_1, r20_4, r20_5, r20_6, r20_8, r20_11, r20_12, r20_13, r20_15, r20_18, r20_19, r20_20, r20_22, r20_25, r20_26, r20_27, r20_28, r20_29, r20_32, r20_33, r20_36, r20_37, r20_40, r20_41, r20_42, r20_43, r20_46, r20_49, r20_50, r20_52, r20_53, r20_56, r20_57, r20_60, r20_61, r20_64, r20_65, r20_66, r20_67, r20_70, r20_73, r20_74, r20_77, g3, L0, tb_vl_some, tb_vl_none, tb_wF_some, nI_add, pk_mul, e_sub, e_div, tb_nmod, e_dec, e_le, e_lt, e_eq, e_eq0, e_lt0, e_0le, e_0lt, e_le0, if_true, if_false, not_true_eq_false, not_false_eq_true, ite_true, ite_false, Nat.reduceAdd, Nat.reduceMul, Nat.reduceLeDiff, Nat.reduceLT, Nat.reduceEqDiff, Nat.reduceSub, ↓reduceIte, Nat.reduceDiv, Nat.reduceMod]
  refine A3.st (by decide) (by decide) (fun h4 A4 F4 => ?_)
  have g4 := obj h4 (F4 a (by omega))
  have l4 := (sl h4 (fun q hq => F4 q (by omega))).ld0
  have L4 := fun {w : Nat} (hw : w < 4) {K : Int32 → Prop} => l4.1 hw (K := K)
  simp (disch := first | assumption | omega | exact tb_sm0 | exact tb_sm1 _ | exact tb_sm2 _ _ | exact tb_sm3 _ _ _ | exact tb_sm4 _ _ _ _ | exact Or.inl rfl | exact Or.inr rfl | fail) only [r20_0, r20_1, r20_4, r20_5, r20_6, r20_8, r20_11, r20_12, r20_13, r20_15, r20_18, r20_19, r20_20, r20_22, r20_25, r20_26, r20_27, r20_28, r20_29, r20_32, r20_33, r20_36, r20_37, r20_40, r20_41, r20_42, r20_43, r20_46, r20_49, r20_50, r20_52, r20_53, r20_56, r20_57, r20_60, r20_61, r20_64, r20_65, r20_66, r20_67, r20_70, r20_73, r20_74, r20_77, g4, L4, tb_vl_some, tb_vl_none, tb_wF_some, nI_add, pk_mul, e_sub, e_div, tb_nmod, e_dec, e_le, e_lt, e_eq, e_eq0, e_lt0, e_0le, e_0lt, e_le0, if_true, if_false, not_true_eq_false, not_false_eq_true, ite_true, ite_false, Nat.reduceAdd, Nat.reduceMul, Nat.reduceLeDiff, Nat.reduceLT, Nat.reduceEqDiff, Nat.reduceSub, ↓reduceIte, Nat.reduceDiv, Nat.reduceMod]
  refine A4.st (by decide) (by decide) (fun h5 A5 F5 => ?_)
  have f5 : ∀ q, q ≠ a + 1 → h5 q = h3 q := fun q hq => by rw [F5 q hq, F4 q hq]
  have g5 := obj h5 (f5 a (by omega))
  have l5 := (sl h5 (fun q hq => f5 q (by omega))).ld0
  have L5 := fun {w : Nat} (hw : w < 4) {K : Int32 → Prop} => l5.1 hw (K := K)
  simp (disch := first | assumption | omega | exact tb_sm0 | exact tb_sm1 _ | exact tb_sm2 _ _ | exact tb_sm3 _ _ _ | exact tb_sm4 _ _ _ _ | exact Or.inl rfl | exact Or.inr rfl | fail) only [r20_0, r20_1, r20_4, r20_5, r20_6, r20_8, r20_11, r20_12, r20_13, r20_15, r20_18, r20_19, r20_20, r20_22, r20_25, r20_26, r20_27, r20_28, r20_29, r20_32, r20_33, r20_36, r20_37, r20_40, r20_41, r20_42, r20_43, r20_46, r20_49, r20_50, r20_52, r20_53, r20_56, r20_57, r20_60, r20_61, r20_64, r20_65, r20_66, r20_67, r20_70, r20_73, r20_74, r20_77, g5, L5, tb_vl_some, tb_vl_none, tb_wF_some, nI_add, pk_mul, e_sub, e_div, tb_nmod, e_dec, e_le, e_lt, e_eq, e_eq0, e_lt0, e_0le, e_0lt, e_le0, if_true, if_false, not_true_eq_false, not_false_eq_true, ite_true, ite_false, Nat.reduceAdd, Nat.reduceMul, Nat.reduceLeDiff, Nat.reduceLT, Nat.reduceEqDiff, Nat.reduceSub, ↓reduceIte, Nat.reduceDiv, Nat.reduceMod]
  refine A5.st (by decide) (by decide) (fun h6 A6 F6 => ?_)
  have f6 : ∀ q, q ≠ a + 1 → h6 q = h3 q := fun q hq => by rw [F6 q hq, f5 q hq]
  have g6 := obj h6 (f6 a (by omega))
  have l6 := (sl h6 (fun q hq => f6 q (by omega))).ld0
  have L6 := fun {w : Nat} (hw : w < 4) {K : Int32 → Prop} => l6.1 hw (K := K)
  simp (disch := first | assumption | omega | exact tb_sm0 | exact tb_sm1 _ | exact tb_sm2 _ _ | exact tb_sm3 _ _ _ | exact tb_sm4 _ _ _ _ | exact Or.inl rfl | exact Or.inr rfl | fail) only [r20_0, r20_1, r20_4, r20_5, r20_6, r20_8, r20_11, r20_12, r20_13, r20_15, r20_18, r20_19, r20_20, r20_22, r20_25, r20_26, r20_27, r20_28, r20_29, r20_32, r20_33, r20_36, r20_37, r20_40, r20_41, r20_42, r20_43, r20_46, r20_49, r20_50, r20_52, r20_53, r20_56, r20_57, r20_60, r20_61, r20_64, r20_65, r20_66, r20_67, r20_70, r20_73, r20_74, r20_77, g6, L6, tb_vl_some, tb_vl_none, tb_wF_some, nI_add, pk_mul, e_sub, e_div, tb_nmod, e_dec, e_le, e_lt, e_eq, e_eq0, e_lt0, e_0le, e_0lt, e_le0, if_true, if_false, not_true_eq_false, not_false_eq_true, ite_true, ite_false, Nat.reduceAdd, Nat.reduceMul, Nat.reduceLeDiff, Nat.reduceLT, Nat.reduceEqDiff, Nat.reduceSub, ↓reduceIte, Nat.reduceDiv, Nat.reduceMod]
  refine A6.st (by decide) (by decide) (fun h7 A7 F7 => ?_)
  have f7 : ∀ q, q ≠ a + 1 → h7 q = h3 q := fun q hq => by rw [F7 q hq, f6 q hq]
  have g7 := obj h7 (f7 a (by omega))
  have l7 := (sl h7 (fun q hq => f7 q (by omega))).ld0
  have L7 := fun {w : Nat} (hw : w < 3) {K : Int32 → Prop} => l7.2 hw (K := K)
  have B7 := B3.to (f7 (a + 2) (by omega)) (fun _ _ => rfl)
  have C7 := C3.to (f7 (a + 3) (by omega)) (fun _ _ => rfl)
  simp (disch := first | assumption | omega | exact tb_sm0 | exact tb_sm1 _ | exact tb_sm2 _ _ | exact tb_sm3 _ _ _ | exact tb_sm4 _ _ _ _ | exact Or.inl rfl | exact Or.inr rfl | fail) only [r20_0, r20_1, r20_4, r20_5, r20_6, r20_8, r20_11, r20_12, r20_13, r20_15, r20_18, r20_19, r20_20, r20_22, r20_25, r20_26, r20_27, r20_28, r20_29, r20_32, r20_33, r20_36, r20_37, r20_40, r20_41, r20_42, r20_43, r20_46, r20_49, r20_50, r20_51, r20_52, r20_53, r20_56, r20_57, r20_60, r20_61, r20_64, r20_65, r20_66, r20_67, r20_70, r20_73, r20_74, r20_77, g7, L7, tb_vl_some, tb_vl_none, tb_wF_some, nI_add, pk_mul, e_sub, e_div, tb_nmod, e_dec, e_le, e_lt, e_eq, e_eq0, e_lt0, e_0le, e_0lt, e_le0, if_true, if_false, not_true_eq_false, not_false_eq_true, ite_true, ite_false, Nat.reduceAdd, Nat.reduceMul, Nat.reduceLeDiff, Nat.reduceLT, Nat.reduceEqDiff, Nat.reduceSub, ↓reduceIte, Nat.reduceDiv, Nat.reduceMod]
  refine B7.st (by decide) (by decide) (fun h8 B8 F8 => ?_)
  have g8 := obj h8 (by rw [F8 a (by omega), f7 a (by omega)])
  have l8 := (sl h8 (fun q hq => by rw [F8 q (by omega), f7 q (by omega)])).ld0
  have L8 := fun {w : Nat} (hw : w < 3) {K : Int32 → Prop} => l8.2 hw (K := K)
  simp (disch := first | assumption | omega | exact tb_sm0 | exact tb_sm1 _ | exact tb_sm2 _ _ | exact tb_sm3 _ _ _ | exact tb_sm4 _ _ _ _ | exact Or.inl rfl | exact Or.inr rfl | fail) only [r20_0, r20_1, r20_4, r20_5, r20_6, r20_8, r20_11, r20_12, r20_13, r20_15, r20_18, r20_19, r20_20, r20_22, r20_25, r20_26, r20_27, r20_28, r20_29, r20_32, r20_33, r20_36, r20_37, r20_40, r20_41, r20_42, r20_43, r20_46, r20_49, r20_50, r20_51, r20_52, r20_53, r20_56, r20_57, r20_60, r20_61, r20_64, r20_65, r20_66, r20_67, r20_70, r20_73, r20_74, r20_77, g8, L8, tb_vl_some, tb_vl_none, tb_wF_some, nI_add, pk_mul, e_sub, e_div, tb_nmod, e_dec, e_le, e_lt, e_eq, e_eq0, e_lt0, e_0le, e_0lt, e_le0, if_true, if_false, not_true_eq_false, not_false_eq_true, ite_true, ite_false, Nat.reduceAdd, Nat.reduceMul, Nat.reduceLeDiff, Nat.reduceLT, Nat.reduceEqDiff, Nat.reduceSub, ↓reduceIte, Nat.reduceDiv, Nat.reduceMod]
  refine B8.st (by decide) (by decide) (fun h9 B9 F9 => ?_)
  have f9 : ∀ q, q ≠ a + 2 → h9 q = h7 q := fun q hq => by rw [F9 q hq, F8 q hq]
  have g9 := obj h9 (by rw [f9 a (by omega), f7 a (by omega)])
  have l9 := (sl h9 (fun q hq => by rw [f9 q (by omega), f7 q (by omega)])).ld0
  have L9 := fun {w : Nat} (hw : w < 3) {K : Int32 → Prop} => l9.2 hw (K := K)
  simp (disch := first | assumption | omega | exact tb_sm0 | exact tb_sm1 _ | exact tb_sm2 _ _ | exact tb_sm3 _ _ _ | exact tb_sm4 _ _ _ _ | exact Or.inl rfl | exact Or.inr rfl | fail) only [r20_0, r20_1, r20_4, r20_5, r20_6, r20_8, r20_11, r20_12, r20_13, r20_15, r20_18, r20_19, r20_20, r20_22, r20_25, r20_26, r20_27, r20_28, r20_29, r20_32, r20_33, r20_36, r20_37, r20_40, r20_41, r20_42, r20_43, r20_46, r20_49, r20_50, r20_51, r20_52, r20_53, r20_56, r20_57, r20_60, r20_61, r20_64, r20_65, r20_66, r20_67, r20_70, r20_73, r20_74, r20_77, g9, L9, tb_vl_some, tb_vl_none, tb_wF_some, nI_add, pk_mul, e_sub, e_div, tb_nmod, e_dec, e_le, e_lt, e_eq, e_eq0, e_lt0, e_0le, e_0lt, e_le0, if_true, if_false, not_true_eq_false, not_false_eq_true, ite_true, ite_false, Nat.reduceAdd, Nat.reduceMul, Nat.reduceLeDiff, Nat.reduceLT, Nat.reduceEqDiff, Nat.reduceSub, ↓reduceIte, Nat.reduceDiv, Nat.reduceMod]
  refine B9.st (by decide) (by decide) (fun h10 B10 F10 => ?_)
  have f10 : ∀ q, q ≠ a + 2 → h10 q = h7 q := fun q hq => by rw [F10 q hq, f9 q hq]
  have o10 : h10 a = some (.inl (3, [.ref (a + 1), .ref (a + 2), .ref (a + 3)])) := by rw [f10 a (by omega), f7 a (by omega)]; exact h31
  have hO10 : tb_isO h10 a 3 := ⟨_, o10⟩
  simp (disch := first | assumption | omega | exact tb_sm0 | exact tb_sm1 _ | exact tb_sm2 _ _ | exact tb_sm3 _ _ _ | exact tb_sm4 _ _ _ _ | exact Or.inl rfl | exact Or.inr rfl | fail) only [r20_0, r20_1, r20_4, r20_5, r20_6, r20_8, r20_11, r20_12, r20_13, r20_15, r20_18, r20_19, r20_20, r20_22, r20_25, r20_26, r20_27, r20_28, r20_29, r20_32, r20_33, r20_36, r20_37, r20_40, r20_41, r20_42, r20_43, r20_46, r20_49, r20_50, r20_51, r20_52, r20_53, r20_56, r20_57, r20_60, r20_61, r20_64, r20_65, r20_66, r20_67, r20_70, r20_73, r20_74, r20_77, tb_vl_some, tb_vl_none, tb_wF_some, nI_add, pk_mul, e_sub, e_div, tb_nmod, e_dec, e_le, e_lt, e_eq, e_eq0, e_lt0, e_0le, e_0lt, e_le0, if_true, if_false, not_true_eq_false, not_false_eq_true, ite_true, ite_false, Nat.reduceAdd, Nat.reduceMul, Nat.reduceLeDiff, Nat.reduceLT, Nat.reduceEqDiff, Nat.reduceSub, ↓reduceIte, Nat.reduceDiv, Nat.reduceMod]
  refine c_sortKinds (s := sp_0) (F := fun _ => nI 0) ⟨o10, A7.to (f10 _ (by omega)) (fun j hj => ?_), B10.to rfl (fun j hj => ?_), C7.to (f10 _ (by omega)) (fun _ _ => rfl)⟩ (fun k hk => ?_) (fun h11' R11 F11 => ?_)
  · rcases (by omega : j = 0 ∨ j = 1 ∨ j = 2 ∨ j = 3) with rfl | rfl | rfl | rfl <;> rfl
  · rcases (by omega : j = 0 ∨ j = 1 ∨ j = 2) with rfl | rfl | rfl <;> rfl
  · rcases (by omega : k = 0 ∨ k = 1 ∨ k = 2 ∨ k = 3) with rfl | rfl | rfl | rfl <;> decide
  · try simp (disch := first | assumption | omega | exact tb_sm0 | exact tb_sm1 _ | exact tb_sm2 _ _ | exact tb_sm3 _ _ _ | exact tb_sm4 _ _ _ _ | exact Or.inl rfl | exact Or.inr rfl | fail) only [r20_0, r20_1, r20_4, r20_5, r20_6, r20_8, r20_11, r20_12, r20_13, r20_15, r20_18, r20_19, r20_20, r20_22, r20_25, r20_26, r20_27, r20_28, r20_29, r20_32, r20_33, r20_36, r20_37, r20_40, r20_41, r20_42, r20_43, r20_46, r20_49, r20_50, r20_51, r20_52, r20_53, r20_56, r20_57, r20_60, r20_61, r20_64, r20_65, r20_66, r20_67, r20_70, r20_73, r20_74, r20_77, tb_vl_some, tb_vl_none, tb_wF_some]
    exact hQ h11' R11 (fun q hq => by rw [F11 q (by omega), f10 q (by omega), f7 q (by omega), fr3 q hq])
end N1
