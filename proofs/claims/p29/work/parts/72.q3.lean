/-! THE LAW: a board -/
def lw_h (s : Nat → Nat) (b : Nat) : Nat → Nat := fun j => if 0 < s (48 + 32 * b + j) then 1 else 0
def lw_s (s : Nat → Nat) (b : Nat) : Nat → Nat := fun j => if sp_why s b (j / 4) (j % 4) = 0 then 1 else 0
theorem slid_0 {s : Nat → Nat} {b : Nat} : (sp_acc (lw_s s b) 32 = 0) = (sp_rb s b = true) := by
  apply propext
  rw [sp_rb_t]
  constructor
  · intro h0 k hk hw
    have q := acc_ge (lw_s s b) 32 hk
    rw [h0] at q
    unfold lw_s at q
    rw [if_pos hw] at q
    omega
  · intro hr
    have e := sp_acc_c (f := lw_s s b) (g := fun _ => 0) 32 (fun j hj => by unfold lw_s; rw [if_neg (hr j hj)])
    rw [e]
    rfl
theorem mvh_le {s : Nat → Nat} (hI : sp_I s) {b : Nat} (hb : b < 5) : sp_mvh s b ≤ sp_heaps s b := by
  refine acc_mono 32 (fun j hj => ?_)
  split
  · have := hI.2.2.2.2 (32 * b + j) (by omega)
    rwa [show 208 + (32 * b + j) = 208 + 32 * b + j by omega] at this
  · exact Nat.le_refl _
theorem T_bound {T : Nat} {s : Nat → Nat} (hT : pp_T T s) {b : Nat} (hb : b < 5) : s (18 + b) ≤ 396 * T := by
  obtain ⟨-, ⟨-, v2, v3, -⟩, -, t4⟩ := hT
  have a0 := t4 0 (by decide); have a1 := t4 1 (by decide); have a2 := t4 2 (by decide); have a3 := t4 3 (by decide)
  simp only [Nat.reduceAdd] at a0 a1 a2 a3
  unfold pp_L at v3
  rcases (by omega : b = 0 ∨ b = 1 ∨ b = 2 ∨ b = 3 ∨ b = 4) with rfl | rfl | rfl | rfl | rfl <;> simp only [Nat.reduceAdd] <;> omega
theorem l5_nn {n : Nat} (h : n ≤ 91) : (sp_l5 n = -5) = (n = 91) := by
  apply propext
  unfold sp_l5
  by_cases c : n ≤ 90
  · rw [if_pos c]
    constructor
    · intro q
      have : 0 ≤ nI n := by rw [e_0le (by omega)]; trivial
      rw [q] at this
      exact absurd this (by decide)
    · intro q; omega
  · rw [if_neg c]
    constructor
    · intro _; omega
    · intro _; rfl
section QB
variable {E : tb_env} {d : Nat} {h : tb_heap} {nx : Nat} {Q : Option Value → tb_heap → Nat → Prop} {x kn : Nat} {s : Nat → Nat} {hs : Nat → Nat → Nat} {g : sp_G}
theorem l_isB_l {b : Nat} (hC : tb_CF h x s hs kn g) (hI : sp_I s) (hb : b < 5) (hd : 7 ≤ d) (n : Nat) : ∀ (i : Nat) (y1 y2 y3 : Value), i + n = 32 →
    (∀ y1 y2 y3, tb_wp E d 77 210 [.ref x, .int (nI b), .int (nI (sp_acc (fun j => s (48 + 32 * b + j)) 32)), .int (nI (sp_acc (lw_h s b) 32)), .int (nI (sp_acc (lw_s s b) 32)), .int (sp_l5 (sp_lst s b 32)), .int (nI 0), .int (nI 1), .int (nI 32), y1, y2, y3] [] h nx 0 0 Q) →
    tb_wp E d 77 20 [.ref x, .int (nI b), .int (nI (sp_acc (fun j => s (48 + 32 * b + j)) i)), .int (nI (sp_acc (lw_h s b) i)), .int (nI (sp_acc (lw_s s b) i)), .int (sp_l5 (sp_lst s b i)), .int (nI 0), .int (nI 1), .int (nI i), y1, y2, y3] [] h nx 0 0 Q := by
  induction n with
  | zero =>
    intro i y1 y2 y3 hi hQ
    have e : i = 32 := by omega
    subst e
    simp (disch := first | assumption | omega | exact tb_sm0 | exact tb_sm1 _ | exact tb_sm2 _ _ | exact tb_sm3 _ _ _ | exact tb_sm4 _ _ _ _ | exact Or.inl rfl | exact Or.inr rfl | fail) only [r77_20, r77_22, r77_24, nI_add, pk_mul, e_sub, e_div, tb_nmod, e_dec, e_le, e_lt, e_eq, e_eq0, e_lt0, e_0le, e_0lt, e_le0, if_true, if_false, not_true_eq_false, not_false_eq_true, ite_true, ite_false, Nat.reduceAdd, Nat.reduceMul, Nat.reduceLeDiff, Nat.reduceLT, Nat.reduceEqDiff, Nat.reduceSub, ↓reduceIte, Nat.reduceDiv, Nat.reduceMod]
    exact hQ y1 y2 y3
  | succ n ih =>
    intro i y1 y2 y3 hi hQ
    have oX := hC.1.O
    have hi32 : i < 32 := by omega
    have four : ¬ nI 4 = 0 := by decide
    have hc : i / 4 < 8 := by omega
    have hk : i % 4 < 4 := Nat.mod_lt _ (by decide)
    have ei : 48 + 32 * b + 4 * (i / 4) + i % 4 = 48 + 32 * b + i := by omega
    have hw := sp_hp_le hI hb hi32
    have hrm := sp_room_le s b (i / 4)
    have hnd := sp_need_le hI hb hc hk
    have hl := sp_lst_le s b i
    have hwy : sp_why s b (i / 4) (i % 4) ≤ 3 := by unfold sp_why; split; decide; split; decide; split <;> decide
    have qg : ∀ {Q' : Option Value → tb_heap → Nat → Prop}, tb_wp E (d - 1) 53 0 [.ref x, .int (nI b), .int (nI (i / 4)), .int (nI (i % 4))] [] h nx 0 0 Q' = Q' (some (.int (nI (s (48 + 32 * b + i))))) h nx := by
      intro Q'
      rw [q_grains hC (by omega) hb hc hk, ei]
    have qn : ∀ {Q' : Option Value → tb_heap → Nat → Prop}, tb_wp E (d - 1) 57 0 [.ref x, .int (nI b), .int (nI (i / 4)), .int (nI (i % 4)), .long 0] [] h nx 0 0 Q' = Q' (some (.int (if s (48 + 32 * b + i) = 0 then -5 else nI (sp_need s b (i / 4) (i % 4))))) h nx := by
      intro Q'
      rw [q_needs hC hI (by omega) hb hc hk, ei]
    have qr : ∀ {Q' : Option Value → tb_heap → Nat → Prop}, tb_wp E (d - 1) 58 0 [.ref x, .int (nI b), .int (nI (i / 4)), .int (nI (i % 4))] [] h nx 0 0 Q' = Q' (some (.int (nI (sp_why s b (i / 4) (i % 4))))) h nx := q_reason hC hI (by omega) hb hc hk
    have qo : ∀ {c' : Nat} (hc' : c' < 8) {Q' : Option Value → tb_heap → Nat → Prop}, tb_wp E (d - 1) 75 0 [.ref x, .int (nI b), .int (nI c'), .long 0, .long 0] [] h nx 0 0 Q' = Q' (some (.int (nI (sp_on s b c')))) h nx := fun hc' => l_onCell hC hb hc' (by omega)
    have qh : ∀ {Q' : Option Value → tb_heap → Nat → Prop}, tb_wp E (d - 1) 76 0 [.ref x, .int (nI b), .int (nI (i / 4)), .int (nI (i % 4)), .long 0, .long 0, .long 0, .long 0, .long 0, .long 0, .long 0] [] h nx 0 0 Q' = Q' (some (.int (nI 1))) h nx := l_isHeap hC hI hb hc hk (by omega)
    have eg : sp_acc (fun j => s (48 + 32 * b + j)) (i + 1) = sp_acc (fun j => s (48 + 32 * b + j)) i + s (48 + 32 * b + i) := rfl
    have eh : sp_acc (lw_h s b) (i + 1) = sp_acc (lw_h s b) i + lw_h s b i := rfl
    have es : sp_acc (lw_s s b) (i + 1) = sp_acc (lw_s s b) i + lw_s s b i := rfl
    have el : sp_lst s b (i + 1) = if 0 < s (48 + 32 * b + i) ∧ 0 < sp_room s b (i / 4) ∧ sp_need s b (i / 4) (i % 4) < sp_lst s b i then sp_need s b (i / 4) (i % 4) else sp_lst s b i := rfl
    have nxt := fun y1 y2 y3 => ih (i + 1) y1 y2 y3 (by omega) hQ
    rw [eg, eh, es] at nxt
    -- the least
    have k164 : ∀ told : Int32, told = (if s (48 + 32 * b + i) = 0 then -5 else nI (sp_need s b (i / 4) (i % 4))) → tb_wp E d 77 164 [.ref x, .int (nI b), .int (nI (sp_acc (fun j => s (48 + 32 * b + j)) i + s (48 + 32 * b + i))), .int (nI (sp_acc (lw_h s b) i + lw_h s b i)), .int (nI (sp_acc (lw_s s b) i + lw_s s b i)), .int (sp_l5 (sp_lst s b i)), .int (nI 0), .int (nI 1), .int (nI i), .int (nI (s (48 + 32 * b + i))), .int (nI (sp_room s b (i / 4))), .int told] [] h nx 0 0 Q := by
      intro told ht
      have kk := nxt (.int (nI (s (48 + 32 * b + i)))) (.int (nI (sp_room s b (i / 4)))) (.int told)
      by_cases w0 : s (48 + 32 * b + i) = 0
      · rw [el, if_neg (fun q => by omega)] at kk
        rw [w0] at kk ⊢
        simp (disch := first | assumption | omega | exact tb_sm0 | exact tb_sm1 _ | exact tb_sm2 _ _ | exact tb_sm3 _ _ _ | exact tb_sm4 _ _ _ _ | exact Or.inl rfl | exact Or.inr rfl | fail) only [r77_164, r77_166, r77_169, r77_171, r77_174, r77_176, r77_178, r77_181, r77_183, r77_185, r77_188, r77_190, r77_192, r77_195, r77_197, r77_200, r77_202, r77_204, r77_207, nI_add, tb_vl_some, tb_vl_none, tb_wF_some, nI_add, pk_mul, e_sub, e_div, tb_nmod, e_dec, e_le, e_lt, e_eq, e_eq0, e_lt0, e_0le, e_0lt, e_le0, if_true, if_false, not_true_eq_false, not_false_eq_true, ite_true, ite_false, Nat.reduceAdd, Nat.reduceMul, Nat.reduceLeDiff, Nat.reduceLT, Nat.reduceEqDiff, Nat.reduceSub, ↓reduceIte, Nat.reduceDiv, Nat.reduceMod]
        exact kk
      · rw [if_neg w0] at ht
        subst ht
        by_cases r0 : sp_room s b (i / 4) = 0
        · rw [el, if_neg (fun q => by omega)] at kk
          rw [r0] at kk ⊢
          simp (disch := first | assumption | omega | exact tb_sm0 | exact tb_sm1 _ | exact tb_sm2 _ _ | exact tb_sm3 _ _ _ | exact tb_sm4 _ _ _ _ | exact Or.inl rfl | exact Or.inr rfl | fail) only [r77_164, r77_166, r77_169, r77_171, r77_174, r77_176, r77_178, r77_181, r77_183, r77_185, r77_188, r77_190, r77_192, r77_195, r77_197, r77_200, r77_202, r77_204, r77_207, nI_add, w0, tb_vl_some, tb_vl_none, tb_wF_some, nI_add, pk_mul, e_sub, e_div, tb_nmod, e_dec, e_le, e_lt, e_eq, e_eq0, e_lt0, e_0le, e_0lt, e_le0, if_true, if_false, not_true_eq_false, not_false_eq_true, ite_true, ite_false, Nat.reduceAdd, Nat.reduceMul, Nat.reduceLeDiff, Nat.reduceLT, Nat.reduceEqDiff, Nat.reduceSub, ↓reduceIte, Nat.reduceDiv, Nat.reduceMod]
          exact kk
        · by_cases n9 : 90 < sp_need s b (i / 4) (i % 4)
          · rw [el, if_neg (fun q => by omega)] at kk
            simp (disch := first | assumption | omega | exact tb_sm0 | exact tb_sm1 _ | exact tb_sm2 _ _ | exact tb_sm3 _ _ _ | exact tb_sm4 _ _ _ _ | exact Or.inl rfl | exact Or.inr rfl | fail) only [r77_164, r77_166, r77_169, r77_171, r77_174, r77_176, r77_178, r77_181, r77_183, r77_185, r77_188, r77_190, r77_192, r77_195, r77_197, r77_200, r77_202, r77_204, r77_207, nI_add, w0, r0, n9, tb_vl_some, tb_vl_none, tb_wF_some, nI_add, pk_mul, e_sub, e_div, tb_nmod, e_dec, e_le, e_lt, e_eq, e_eq0, e_lt0, e_0le, e_0lt, e_le0, if_true, if_false, not_true_eq_false, not_false_eq_true, ite_true, ite_false, Nat.reduceAdd, Nat.reduceMul, Nat.reduceLeDiff, Nat.reduceLT, Nat.reduceEqDiff, Nat.reduceSub, ↓reduceIte, Nat.reduceDiv, Nat.reduceMod]
            exact kk
          · have n9' : ¬ 90 < sp_need s b (i / 4) (i % 4) := n9
            have l5n : sp_l5 (sp_need s b (i / 4) (i % 4)) = nI (sp_need s b (i / 4) (i % 4)) := by unfold sp_l5; rw [if_pos (by omega)]
            have lnn := l5_nn hl
            by_cases l91 : sp_lst s b i = 91
            · rw [el, if_pos ⟨by omega, by omega, by omega⟩, l5n] at kk
              simp (disch := first | assumption | omega | exact tb_sm0 | exact tb_sm1 _ | exact tb_sm2 _ _ | exact tb_sm3 _ _ _ | exact tb_sm4 _ _ _ _ | exact Or.inl rfl | exact Or.inr rfl | fail) only [r77_164, r77_166, r77_169, r77_171, r77_174, r77_176, r77_178, r77_181, r77_183, r77_185, r77_188, r77_190, r77_192, r77_195, r77_197, r77_200, r77_202, r77_204, r77_207, nI_add, w0, r0, n9', lnn, l91, tb_vl_some, tb_vl_none, tb_wF_some, nI_add, pk_mul, e_sub, e_div, tb_nmod, e_dec, e_le, e_lt, e_eq, e_eq0, e_lt0, e_0le, e_0lt, e_le0, if_true, if_false, not_true_eq_false, not_false_eq_true, ite_true, ite_false, Nat.reduceAdd, Nat.reduceMul, Nat.reduceLeDiff, Nat.reduceLT, Nat.reduceEqDiff, Nat.reduceSub, ↓reduceIte, Nat.reduceDiv, Nat.reduceMod]
              exact kk
            · have l5l : sp_l5 (sp_lst s b i) = nI (sp_lst s b i) := by unfold sp_l5; rw [if_pos (by omega)]
              have lnn2 : (nI (sp_lst s b i) = -5) = False := by rw [← l5l, lnn]; exact eq_false l91
              by_cases lt : sp_need s b (i / 4) (i % 4) < sp_lst s b i
              · rw [el, if_pos ⟨by omega, by omega, lt⟩, l5n] at kk
                have lt' : ¬ sp_lst s b i ≤ sp_need s b (i / 4) (i % 4) := by omega
                rw [l5l]
                simp (disch := first | assumption | omega | exact tb_sm0 | exact tb_sm1 _ | exact tb_sm2 _ _ | exact tb_sm3 _ _ _ | exact tb_sm4 _ _ _ _ | exact Or.inl rfl | exact Or.inr rfl | fail) only [r77_164, r77_166, r77_169, r77_171, r77_174, r77_176, r77_178, r77_181, r77_183, r77_185, r77_188, r77_190, r77_192, r77_195, r77_197, r77_200, r77_202, r77_204, r77_207, nI_add, w0, r0, n9', lnn2, lt', tb_vl_some, tb_vl_none, tb_wF_some, nI_add, pk_mul, e_sub, e_div, tb_nmod, e_dec, e_le, e_lt, e_eq, e_eq0, e_lt0, e_0le, e_0lt, e_le0, if_true, if_false, not_true_eq_false, not_false_eq_true, ite_true, ite_false, Nat.reduceAdd, Nat.reduceMul, Nat.reduceLeDiff, Nat.reduceLT, Nat.reduceEqDiff, Nat.reduceSub, ↓reduceIte, Nat.reduceDiv, Nat.reduceMod]
                exact kk
              · rw [el, if_neg (fun q => lt q.2.2), l5l] at kk
                have lt' : sp_lst s b i ≤ sp_need s b (i / 4) (i % 4) := by omega
                rw [l5l]
                simp (disch := first | assumption | omega | exact tb_sm0 | exact tb_sm1 _ | exact tb_sm2 _ _ | exact tb_sm3 _ _ _ | exact tb_sm4 _ _ _ _ | exact Or.inl rfl | exact Or.inr rfl | fail) only [r77_164, r77_166, r77_169, r77_171, r77_174, r77_176, r77_178, r77_181, r77_183, r77_185, r77_188, r77_190, r77_192, r77_195, r77_197, r77_200, r77_202, r77_204, r77_207, nI_add, w0, r0, n9', lnn2, lt', tb_vl_some, tb_vl_none, tb_wF_some, nI_add, pk_mul, e_sub, e_div, tb_nmod, e_dec, e_le, e_lt, e_eq, e_eq0, e_lt0, e_0le, e_0lt, e_le0, if_true, if_false, not_true_eq_false, not_false_eq_true, ite_true, ite_false, Nat.reduceAdd, Nat.reduceMul, Nat.reduceLeDiff, Nat.reduceLT, Nat.reduceEqDiff, Nat.reduceSub, ↓reduceIte, Nat.reduceDiv, Nat.reduceMod]
                exact kk
    -- the heaps that lie and slide
    have k120 : ∀ told : Int32, told = (if s (48 + 32 * b + i) = 0 then -5 else nI (sp_need s b (i / 4) (i % 4))) → tb_wp E d 77 120 [.ref x, .int (nI b), .int (nI (sp_acc (fun j => s (48 + 32 * b + j)) i)), .int (nI (sp_acc (lw_h s b) i)), .int (nI (sp_acc (lw_s s b) i)), .int (sp_l5 (sp_lst s b i)), .int (nI 0), .int (nI 1), .int (nI i), .int (nI (s (48 + 32 * b + i))), .int (nI (sp_room s b (i / 4))), .int told] [] h nx 0 0 Q := by
      intro told ht
      have kk := k164 told ht
      by_cases w0 : s (48 + 32 * b + i) = 0
      · have e1 : lw_h s b i = 0 := by unfold lw_h; rw [w0]; rfl
        by_cases y0 : sp_why s b (i / 4) (i % 4) = 0
        · have e2 : lw_s s b i = 1 := by unfold lw_s; rw [if_pos y0]
          rw [e1, e2] at kk
          simp (disch := first | assumption | omega | exact tb_sm0 | exact tb_sm1 _ | exact tb_sm2 _ _ | exact tb_sm3 _ _ _ | exact tb_sm4 _ _ _ _ | exact Or.inl rfl | exact Or.inr rfl | fail) only [r77_120, r77_121, r77_123, r77_124, r77_125, r77_126, r77_128, r77_131, r77_132, r77_135, r77_136, r77_137, r77_138, r77_140, r77_141, r77_142, r77_144, r77_145, r77_146, r77_148, r77_149, r77_150, r77_153, r77_156, r77_157, r77_160, r77_161, r77_162, qr, nI_add, w0, y0, tb_vl_some, tb_vl_none, tb_wF_some, nI_add, pk_mul, e_sub, e_div, tb_nmod, e_dec, e_le, e_lt, e_eq, e_eq0, e_lt0, e_0le, e_0lt, e_le0, if_true, if_false, not_true_eq_false, not_false_eq_true, ite_true, ite_false, Nat.reduceAdd, Nat.reduceMul, Nat.reduceLeDiff, Nat.reduceLT, Nat.reduceEqDiff, Nat.reduceSub, ↓reduceIte, Nat.reduceDiv, Nat.reduceMod]
          rw [w0] at kk
          exact kk
        · have e2 : lw_s s b i = 0 := by unfold lw_s; rw [if_neg y0]
          rw [e1, e2] at kk
          simp (disch := first | assumption | omega | exact tb_sm0 | exact tb_sm1 _ | exact tb_sm2 _ _ | exact tb_sm3 _ _ _ | exact tb_sm4 _ _ _ _ | exact Or.inl rfl | exact Or.inr rfl | fail) only [r77_120, r77_121, r77_123, r77_124, r77_125, r77_126, r77_128, r77_131, r77_132, r77_135, r77_136, r77_137, r77_138, r77_140, r77_141, r77_142, r77_144, r77_145, r77_146, r77_148, r77_149, r77_150, r77_153, r77_156, r77_157, r77_160, r77_161, r77_162, qr, nI_add, w0, y0, tb_vl_some, tb_vl_none, tb_wF_some, nI_add, pk_mul, e_sub, e_div, tb_nmod, e_dec, e_le, e_lt, e_eq, e_eq0, e_lt0, e_0le, e_0lt, e_le0, if_true, if_false, not_true_eq_false, not_false_eq_true, ite_true, ite_false, Nat.reduceAdd, Nat.reduceMul, Nat.reduceLeDiff, Nat.reduceLT, Nat.reduceEqDiff, Nat.reduceSub, ↓reduceIte, Nat.reduceDiv, Nat.reduceMod]
          rw [w0] at kk
          exact kk
      · have e1 : lw_h s b i = 1 := by unfold lw_h; rw [if_pos (by omega)]
        by_cases y0 : sp_why s b (i / 4) (i % 4) = 0
        · have e2 : lw_s s b i = 1 := by unfold lw_s; rw [if_pos y0]
          rw [e1, e2] at kk
          simp (disch := first | assumption | omega | exact tb_sm0 | exact tb_sm1 _ | exact tb_sm2 _ _ | exact tb_sm3 _ _ _ | exact tb_sm4 _ _ _ _ | exact Or.inl rfl | exact Or.inr rfl | fail) only [r77_120, r77_121, r77_123, r77_124, r77_125, r77_126, r77_128, r77_131, r77_132, r77_135, r77_136, r77_137, r77_138, r77_140, r77_141, r77_142, r77_144, r77_145, r77_146, r77_148, r77_149, r77_150, r77_153, r77_156, r77_157, r77_160, r77_161, r77_162, qr, nI_add, w0, y0, tb_vl_some, tb_vl_none, tb_wF_some, nI_add, pk_mul, e_sub, e_div, tb_nmod, e_dec, e_le, e_lt, e_eq, e_eq0, e_lt0, e_0le, e_0lt, e_le0, if_true, if_false, not_true_eq_false, not_false_eq_true, ite_true, ite_false, Nat.reduceAdd, Nat.reduceMul, Nat.reduceLeDiff, Nat.reduceLT, Nat.reduceEqDiff, Nat.reduceSub, ↓reduceIte, Nat.reduceDiv, Nat.reduceMod]
          exact kk
        · have e2 : lw_s s b i = 0 := by unfold lw_s; rw [if_neg y0]
          rw [e1, e2] at kk
          simp (disch := first | assumption | omega | exact tb_sm0 | exact tb_sm1 _ | exact tb_sm2 _ _ | exact tb_sm3 _ _ _ | exact tb_sm4 _ _ _ _ | exact Or.inl rfl | exact Or.inr rfl | fail) only [r77_120, r77_121, r77_123, r77_124, r77_125, r77_126, r77_128, r77_131, r77_132, r77_135, r77_136, r77_137, r77_138, r77_140, r77_141, r77_142, r77_144, r77_145, r77_146, r77_148, r77_149, r77_150, r77_153, r77_156, r77_157, r77_160, r77_161, r77_162, qr, nI_add, w0, y0, tb_vl_some, tb_vl_none, tb_wF_some, nI_add, pk_mul, e_sub, e_div, tb_nmod, e_dec, e_le, e_lt, e_eq, e_eq0, e_lt0, e_0le, e_0lt, e_le0, if_true, if_false, not_true_eq_false, not_false_eq_true, ite_true, ite_false, Nat.reduceAdd, Nat.reduceMul, Nat.reduceLeDiff, Nat.reduceLT, Nat.reduceEqDiff, Nat.reduceSub, ↓reduceIte, Nat.reduceDiv, Nat.reduceMod]
          exact kk
    have k77 : tb_wp E d 77 77 [.ref x, .int (nI b), .int (nI (sp_acc (fun j => s (48 + 32 * b + j)) i)), .int (nI (sp_acc (lw_h s b) i)), .int (nI (sp_acc (lw_s s b) i)), .int (sp_l5 (sp_lst s b i)), .int (nI 0), .int (nI 1), .int (nI i), .int (nI (s (48 + 32 * b + i))), .int (nI (sp_room s b (i / 4))), y3] [] h nx 0 0 Q := by
      have kk := k120 _ rfl
      simp (disch := first | assumption | omega | exact tb_sm0 | exact tb_sm1 _ | exact tb_sm2 _ _ | exact tb_sm3 _ _ _ | exact tb_sm4 _ _ _ _ | exact Or.inl rfl | exact Or.inr rfl | fail) only [r77_77, r77_78, r77_79, r77_81, r77_82, r77_83, r77_85, r77_86, r77_87, r77_90, r77_92, r77_94, r77_97, r77_98, r77_99, r77_101, r77_102, r77_103, r77_105, r77_106, r77_107, r77_110, r77_113, r77_114, r77_117, r77_118, qn, qh, tb_vl_some, tb_vl_none, tb_wF_some, nI_add, pk_mul, e_sub, e_div, tb_nmod, e_dec, e_le, e_lt, e_eq, e_eq0, e_lt0, e_0le, e_0lt, e_le0, if_true, if_false, not_true_eq_false, not_false_eq_true, ite_true, ite_false, Nat.reduceAdd, Nat.reduceMul, Nat.reduceLeDiff, Nat.reduceLT, Nat.reduceEqDiff, Nat.reduceSub, ↓reduceIte, Nat.reduceDiv, Nat.reduceMod]
      exact kk
    have hi' : ¬ 32 ≤ i := by omega
    simp (disch := first | assumption | omega | exact tb_sm0 | exact tb_sm1 _ | exact tb_sm2 _ _ | exact tb_sm3 _ _ _ | exact tb_sm4 _ _ _ _ | exact Or.inl rfl | exact Or.inr rfl | fail) only [r77_20, r77_22, r77_24, hi', nI_add, pk_mul, e_sub, e_div, tb_nmod, e_dec, e_le, e_lt, e_eq, e_eq0, e_lt0, e_0le, e_0lt, e_le0, if_true, if_false, not_true_eq_false, not_false_eq_true, ite_true, ite_false, Nat.reduceAdd, Nat.reduceMul, Nat.reduceLeDiff, Nat.reduceLT, Nat.reduceEqDiff, Nat.reduceSub, ↓reduceIte, Nat.reduceDiv, Nat.reduceMod]
    by_cases c7 : i / 4 = 7
    · have er : sp_room s b (i / 4) = 99 := by unfold sp_room; rw [if_pos c7]
      rw [er] at k77
      simp (disch := first | assumption | omega | exact tb_sm0 | exact tb_sm1 _ | exact tb_sm2 _ _ | exact tb_sm3 _ _ _ | exact tb_sm4 _ _ _ _ | exact Or.inl rfl | exact Or.inr rfl | fail) only [r77_27, r77_29, r77_32, r77_33, r77_34, r77_36, r77_37, r77_38, r77_40, r77_41, r77_42, r77_45, r77_47, r77_49, r77_50, r77_51, r77_53, r77_56, r77_58, r77_61, r77_63, r77_64, r77_65, r77_67, r77_68, r77_69, r77_70, r77_71, r77_74, r77_75, qg, eq_true c7, tb_vl_some, tb_vl_none, tb_wF_some, nI_add, pk_mul, e_sub, e_div, tb_nmod, e_dec, e_le, e_lt, e_eq, e_eq0, e_lt0, e_0le, e_0lt, e_le0, if_true, if_false, not_true_eq_false, not_false_eq_true, ite_true, ite_false, Nat.reduceAdd, Nat.reduceMul, Nat.reduceLeDiff, Nat.reduceLT, Nat.reduceEqDiff, Nat.reduceSub, ↓reduceIte, Nat.reduceDiv, Nat.reduceMod]
      exact k77
    · have er : sp_room s b (i / 4) = 99 - sp_on s b (i / 4 + 1) := by unfold sp_room; rw [if_neg c7]
      have := hI.1 b (i / 4 + 1) hb (by omega)
      rw [er] at k77
      simp (disch := first | assumption | omega | exact tb_sm0 | exact tb_sm1 _ | exact tb_sm2 _ _ | exact tb_sm3 _ _ _ | exact tb_sm4 _ _ _ _ | exact Or.inl rfl | exact Or.inr rfl | fail) only [r77_27, r77_29, r77_32, r77_33, r77_34, r77_36, r77_37, r77_38, r77_40, r77_41, r77_42, r77_45, r77_47, r77_49, r77_50, r77_51, r77_53, r77_56, r77_58, r77_61, r77_63, r77_64, r77_65, r77_67, r77_68, r77_69, r77_70, r77_71, r77_74, r77_75, qg, qo, c7, tb_vl_some, tb_vl_none, tb_wF_some, nI_add, pk_mul, e_sub, e_div, tb_nmod, e_dec, e_le, e_lt, e_eq, e_eq0, e_lt0, e_0le, e_0lt, e_le0, if_true, if_false, not_true_eq_false, not_false_eq_true, ite_true, ite_false, Nat.reduceAdd, Nat.reduceMul, Nat.reduceLeDiff, Nat.reduceLT, Nat.reduceEqDiff, Nat.reduceSub, ↓reduceIte, Nat.reduceDiv, Nat.reduceMod]
      exact k77
theorem l_isBoard {b T : Nat} (hC : tb_CF h x s hs kn g) (hT : pp_T T s) (hT40 : T ≤ 100) (hb : b < 5) (hd : 7 ≤ d) (hQ : ∀ h', tb_CF h' x s hs kn g → tb_out h h' x (x + 198) → Q (some (.int (nI 1))) h' nx) :
    tb_wp E d 77 0 [.ref x, .int (nI b), .long 0, .long 0, .long 0, .long 0, .long 0, .long 0, .long 0, .long 0, .long 0, .long 0] [] h nx 0 0 Q := by
  have hI := hT.1.1
  have oX := hC.1.O
  have hall := all_le hI hb
  have hf := T_bound hT hb
  have hpf := hT.2.1.2.2.2 b hb
  have hmv := mvh_le hI hb
  have hhp := sp_heaps_le s b
  have hsl : sp_acc (lw_s s b) 32 ≤ 32 * 1 := sp_acc_le 32 (fun j hj => by unfold lw_s; split <;> decide)
  simp (disch := first | assumption | omega | exact tb_sm0 | exact tb_sm1 _ | exact tb_sm2 _ _ | exact tb_sm3 _ _ _ | exact tb_sm4 _ _ _ _ | exact Or.inl rfl | exact Or.inr rfl | fail) only [r77_0, r77_1, r77_2, r77_3, r77_4, r77_5, r77_7, r77_9, r77_11, r77_12, r77_14, r77_15, r77_17, r77_18]
  refine l_isB_l (h := h) hC hI hb hd 32 0 _ _ _ rfl (fun y1 y2 y3 => ?_)
  rw [← all_acc, show sp_acc (lw_h s b) 32 = sp_heaps s b from rfl]
  have qp : ∀ {k : Nat} (hk : k < 4) {Q' : Option Value → tb_heap → Nat → Prop}, tb_wp E (d - 1) 55 0 [.ref x, .int (nI b), .int (nI k)] [] h nx 0 0 Q' = Q' (some (.int (nI (s (28 + 4 * b + k))))) h nx := fun hk => q_pan hC (by omega) hb hk
  have qb : ∀ {w : Nat} (hw : w < 8) {Q' : Option Value → tb_heap → Nat → Prop}, tb_wp E (d - 1) 54 0 [.ref x, .int (nI b), .int (nI w), .long 0] [] h nx 0 0 Q' = Q' (some (.int (an_board' s b w))) h nx := fun hw => q_board hC hI (by omega) hb hw
  have ql : ∀ {Q' : Option Value → tb_heap → Nat → Prop}, tb_wp E (d - 1) 59 0 [.ref x, .int (nI b), .long 0] [] h nx 0 0 Q' = Q' (some (.int (sp_l5 (sp_lst s b 32)))) h nx := q_least hC hI (by omega) hb
  have ep : nI (0 + s (28 + 4 * b + 0) + s (28 + 4 * b + 1) + s (28 + 4 * b + 2) + s (28 + 4 * b + 3)) = nI (sp_pan s b) := by rw [sp_pan]; simp only [Nat.add_zero, Nat.zero_add]
  have hf1 : ¬ s (18 + b) < sp_pan s b := by omega
  have hm1 : ¬ sp_heaps s b < sp_mvh s b := by omega
  -- behind the sums: when it comes to rest, what clears, a jolt
  have k322 : ∀ (z1 z2 z3 z4 z5 z6 : Value), tb_wp E d 77 322 [.ref x, .int (nI b), .int (nI (sp_all s b)), z1, .int (nI (sp_acc (lw_s s b) 32)), .int (sp_l5 (sp_lst s b 32)), z2, .int (nI 1), z3, z4, z5, z6] [] h nx 0 0 Q := by
    intro z1 z2 z3 z4 z5 z6
    simp (disch := first | assumption | omega | exact tb_sm0 | exact tb_sm1 _ | exact tb_sm2 _ _ | exact tb_sm3 _ _ _ | exact tb_sm4 _ _ _ _ | exact Or.inl rfl | exact Or.inr rfl | fail) only [r77_322, r77_324, r77_327, r77_328, r77_329, r77_332, r77_334, r77_337, r77_338, r77_339, ql, eq_self, tb_vl_some, tb_vl_none, tb_wF_some, nI_add, pk_mul, e_sub, e_div, tb_nmod, e_dec, e_le, e_lt, e_eq, e_eq0, e_lt0, e_0le, e_0lt, e_le0, if_true, if_false, not_true_eq_false, not_false_eq_true, ite_true, ite_false, Nat.reduceAdd, Nat.reduceMul, Nat.reduceLeDiff, Nat.reduceLT, Nat.reduceEqDiff, Nat.reduceSub, ↓reduceIte, Nat.reduceDiv, Nat.reduceMod]
    refine k_restsIn hC hI (by omega) (fun h2 hC2 hF2 => ?_)
    have oX2 := hC2.1.O
    have k363 : tb_wp E d 77 363 [.ref x, .int (nI b), .int (nI (sp_all s b)), z1, .int (nI (sp_acc (lw_s s b) 32)), .int (sp_l5 (sp_lst s b 32)), z2, .int (nI 1), z3, z4, z5, z6] [] h2 nx 0 0 Q := by
      by_cases a0 : sp_all s b = 0
      · rw [a0]
        simp (disch := first | assumption | omega | exact tb_sm0 | exact tb_sm1 _ | exact tb_sm2 _ _ | exact tb_sm3 _ _ _ | exact tb_sm4 _ _ _ _ | exact Or.inl rfl | exact Or.inr rfl | fail) only [r77_363, r77_364, r77_367, r77_368, r77_369, tb_vl_some, tb_vl_none, tb_wF_some, nI_add, pk_mul, e_sub, e_div, tb_nmod, e_dec, e_le, e_lt, e_eq, e_eq0, e_lt0, e_0le, e_0lt, e_le0, if_true, if_false, not_true_eq_false, not_false_eq_true, ite_true, ite_false, Nat.reduceAdd, Nat.reduceMul, Nat.reduceLeDiff, Nat.reduceLT, Nat.reduceEqDiff, Nat.reduceSub, ↓reduceIte, Nat.reduceDiv, Nat.reduceMod]
        refine k_clearingAngle hC2 hI (by omega) (fun h3 hC3 hF3 => ?_)
        have oX3 := hC3.1.O
        have ec : an_clr s (nI b) = nI 0 := by
          unfold an_clr
          rw [if_neg (e_ok (by omega) (by decide)), sp_n_nI (by omega)]
          exact clr_none hI hb a0
        have ej : ac_jolt s (nI b) = (-5, s) := by
          unfold ac_jolt
          rw [if_neg (e_ok (by omega) (by decide)), sp_n_nI (by omega), if_pos (heaps_none a0)]
        rw [ec]
        simp (disch := first | assumption | omega | exact tb_sm0 | exact tb_sm1 _ | exact tb_sm2 _ _ | exact tb_sm3 _ _ _ | exact tb_sm4 _ _ _ _ | exact Or.inl rfl | exact Or.inr rfl | fail) only [r77_372, r77_375, r77_376, r77_377, tb_vl_some, tb_vl_none, tb_wF_some, nI_add, pk_mul, e_sub, e_div, tb_nmod, e_dec, e_le, e_lt, e_eq, e_eq0, e_lt0, e_0le, e_0lt, e_le0, if_true, if_false, not_true_eq_false, not_false_eq_true, ite_true, ite_false, Nat.reduceAdd, Nat.reduceMul, Nat.reduceLeDiff, Nat.reduceLT, Nat.reduceEqDiff, Nat.reduceSub, ↓reduceIte, Nat.reduceDiv, Nat.reduceMod]
        refine k_jolt hC3 hT.1 (by omega) (fun h4 hC4 hF4 => ?_)
        rw [ej, sp_rc_neg (show (-5 : Int32) < 0 by decide)] at hC4
        rw [ej]
        simp (disch := first | assumption | omega | exact tb_sm0 | exact tb_sm1 _ | exact tb_sm2 _ _ | exact tb_sm3 _ _ _ | exact tb_sm4 _ _ _ _ | exact Or.inl rfl | exact Or.inr rfl | fail) only [r77_380, r77_382, r77_385, r77_386, r77_389, r77_390, eq_self, tb_vl_some, tb_vl_none, tb_wF_some, nI_add, pk_mul, e_sub, e_div, tb_nmod, e_dec, e_le, e_lt, e_eq, e_eq0, e_lt0, e_0le, e_0lt, e_le0, if_true, if_false, not_true_eq_false, not_false_eq_true, ite_true, ite_false, Nat.reduceAdd, Nat.reduceMul, Nat.reduceLeDiff, Nat.reduceLT, Nat.reduceEqDiff, Nat.reduceSub, ↓reduceIte, Nat.reduceDiv, Nat.reduceMod]
        exact hQ h4 hC4 ((hF2.tr hF3).tr hF4)
      · have a1 : 0 < sp_all s b := by omega
        simp (disch := first | assumption | omega | exact tb_sm0 | exact tb_sm1 _ | exact tb_sm2 _ _ | exact tb_sm3 _ _ _ | exact tb_sm4 _ _ _ _ | exact Or.inl rfl | exact Or.inr rfl | fail) only [r77_363, r77_364, r77_367, r77_368, r77_369, r77_372, r77_375, r77_376, r77_377, r77_380, r77_382, r77_385, r77_386, r77_389, r77_390, a1, tb_vl_some, tb_vl_none, tb_wF_some, nI_add, pk_mul, e_sub, e_div, tb_nmod, e_dec, e_le, e_lt, e_eq, e_eq0, e_lt0, e_0le, e_0lt, e_le0, if_true, if_false, not_true_eq_false, not_false_eq_true, ite_true, ite_false, Nat.reduceAdd, Nat.reduceMul, Nat.reduceLeDiff, Nat.reduceLT, Nat.reduceEqDiff, Nat.reduceSub, ↓reduceIte, Nat.reduceDiv, Nat.reduceMod]
        exact hQ h2 hC2 hF2
    have ez := rests_z (s := s) hb
    have es := slid_0 (s := s) (b := b)
    cases hr : sp_rb s b with
    | true =>
      rw [hr] at ez es
      have es0 : sp_acc (lw_s s b) 32 = 0 := by rw [es]
      rw [es0] at k363 ⊢
      simp (disch := first | assumption | omega | exact tb_sm0 | exact tb_sm1 _ | exact tb_sm2 _ _ | exact tb_sm3 _ _ _ | exact tb_sm4 _ _ _ _ | exact Or.inl rfl | exact Or.inr rfl | fail) only [r77_342, r77_345, r77_346, r77_349, r77_350, r77_352, r77_355, r77_356, r77_359, r77_360, ez, tb_vl_some, tb_vl_none, tb_wF_some, nI_add, pk_mul, e_sub, e_div, tb_nmod, e_dec, e_le, e_lt, e_eq, e_eq0, e_lt0, e_0le, e_0lt, e_le0, if_true, if_false, not_true_eq_false, not_false_eq_true, ite_true, ite_false, Nat.reduceAdd, Nat.reduceMul, Nat.reduceLeDiff, Nat.reduceLT, Nat.reduceEqDiff, Nat.reduceSub, ↓reduceIte, Nat.reduceDiv, Nat.reduceMod]
      exact k363
    | false =>
      rw [hr] at ez es
      have es0 : ¬ sp_acc (lw_s s b) 32 = 0 := by rw [es]; decide
      have ez0 : ¬ an_rests s (nI b) = 0 := by rw [ez]; decide
      simp (disch := first | assumption | omega | exact tb_sm0 | exact tb_sm1 _ | exact tb_sm2 _ _ | exact tb_sm3 _ _ _ | exact tb_sm4 _ _ _ _ | exact Or.inl rfl | exact Or.inr rfl | fail) only [r77_342, r77_345, r77_346, r77_349, r77_350, r77_352, r77_355, r77_356, r77_359, r77_360, ez0, es0, tb_vl_some, tb_vl_none, tb_wF_some, nI_add, pk_mul, e_sub, e_div, tb_nmod, e_dec, e_le, e_lt, e_eq, e_eq0, e_lt0, e_0le, e_0lt, e_le0, if_true, if_false, not_true_eq_false, not_false_eq_true, ite_true, ite_false, Nat.reduceAdd, Nat.reduceMul, Nat.reduceLeDiff, Nat.reduceLT, Nat.reduceEqDiff, Nat.reduceSub, ↓reduceIte, Nat.reduceDiv, Nat.reduceMod]
      exact k363
  simp (disch := first | assumption | omega | exact tb_sm0 | exact tb_sm1 _ | exact tb_sm2 _ _ | exact tb_sm3 _ _ _ | exact tb_sm4 _ _ _ _ | exact Or.inl rfl | exact Or.inr rfl | fail) only [r77_210, r77_211, r77_213, r77_215, r77_216, r77_219, r77_221, r77_222, r77_223, r77_225, r77_228, r77_229, r77_231, r77_234, qp, nI_add, tb_vl_some, tb_vl_none, tb_wF_some, nI_add, pk_mul, e_sub, e_div, tb_nmod, e_dec, e_le, e_lt, e_eq, e_eq0, e_lt0, e_0le, e_0lt, e_le0, if_true, if_false, not_true_eq_false, not_false_eq_true, ite_true, ite_false, Nat.reduceAdd, Nat.reduceMul, Nat.reduceLeDiff, Nat.reduceLT, Nat.reduceEqDiff, Nat.reduceSub, ↓reduceIte, Nat.reduceDiv, Nat.reduceMod]
  try rw [ep]
  have er1 : an_board' s b 7 = nI (sp_r1 s b) := rfl
  have es := slid_0 (s := s) (b := b)
  cases hr : sp_rb s b with
  | true =>
    rw [hr] at es
    have es0 : sp_acc (lw_s s b) 32 = 0 := by rw [es]
    have er : sp_r1 s b = 1 := by unfold sp_r1; rw [hr]; rfl
    rw [es0] at k322 ⊢
    simp (disch := first | assumption | omega | exact tb_sm0 | exact tb_sm1 _ | exact tb_sm2 _ _ | exact tb_sm3 _ _ _ | exact tb_sm4 _ _ _ _ | exact Or.inl rfl | exact Or.inr rfl | fail) only [r77_237, r77_239, r77_242, r77_243, r77_244, r77_245, r77_246, r77_249, r77_252, r77_254, r77_255, r77_256, r77_257, r77_260, r77_263, r77_264, r77_265, r77_266, r77_267, r77_270, r77_273, r77_274, r77_275, r77_277, r77_280, r77_281, r77_284, r77_285, r77_286, r77_288, r77_291, r77_293, r77_296, r77_297, r77_300, r77_301, r77_304, r77_305, r77_306, r77_307, r77_310, r77_312, r77_315, r77_316, r77_319, r77_320, qb, an_board', er, hf1, hm1, eq_self, tb_vl_some, tb_vl_none, tb_wF_some, nI_add, pk_mul, e_sub, e_div, tb_nmod, e_dec, e_le, e_lt, e_eq, e_eq0, e_lt0, e_0le, e_0lt, e_le0, if_true, if_false, not_true_eq_false, not_false_eq_true, ite_true, ite_false, Nat.reduceAdd, Nat.reduceMul, Nat.reduceLeDiff, Nat.reduceLT, Nat.reduceEqDiff, Nat.reduceSub, ↓reduceIte, Nat.reduceDiv, Nat.reduceMod]
    exact k322 _ _ _ _ _ _
  | false =>
    rw [hr] at es
    have es0 : ¬ sp_acc (lw_s s b) 32 = 0 := by rw [es]; decide
    have er : sp_r1 s b = 0 := by unfold sp_r1; rw [hr]; rfl
    simp (disch := first | assumption | omega | exact tb_sm0 | exact tb_sm1 _ | exact tb_sm2 _ _ | exact tb_sm3 _ _ _ | exact tb_sm4 _ _ _ _ | exact Or.inl rfl | exact Or.inr rfl | fail) only [r77_237, r77_239, r77_242, r77_243, r77_244, r77_245, r77_246, r77_249, r77_252, r77_254, r77_255, r77_256, r77_257, r77_260, r77_263, r77_264, r77_265, r77_266, r77_267, r77_270, r77_273, r77_274, r77_275, r77_277, r77_280, r77_281, r77_284, r77_285, r77_286, r77_288, r77_291, r77_293, r77_296, r77_297, r77_300, r77_301, r77_304, r77_305, r77_306, r77_307, r77_310, r77_312, r77_315, r77_316, r77_319, r77_320, qb, an_board', er, es0, hf1, hm1, eq_self, tb_vl_some, tb_vl_none, tb_wF_some, nI_add, pk_mul, e_sub, e_div, tb_nmod, e_dec, e_le, e_lt, e_eq, e_eq0, e_lt0, e_0le, e_0lt, e_le0, if_true, if_false, not_true_eq_false, not_false_eq_true, ite_true, ite_false, Nat.reduceAdd, Nat.reduceMul, Nat.reduceLeDiff, Nat.reduceLT, Nat.reduceEqDiff, Nat.reduceSub, ↓reduceIte, Nat.reduceDiv, Nat.reduceMod]
    exact k322 _ _ _ _ _ _
end QB
