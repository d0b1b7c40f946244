/-! THE CLASS: its history -/
def tb_ha (x p : Nat) : Nat := x + 84 + 27 * p
def tb_Ho (h : tb_heap) (x o kn : Nat) : Prop := h (x + 82) = some (.inl (1, [.ref (x + 83), .int (nI o), .int (nI kn)]))
def tb_Hr (h : tb_heap) (x : Nat) : Prop := ∃ gg, h (x + 83) = some (.inr (.inr (4, 4, gg))) ∧ ∀ p, p < 4 → gg p = some (tb_ha x p)
def tb_Hi (h : tb_heap) (x : Nat) (hs : Nat → Nat → Nat) (kn : Nat) : Prop := ∃ (o : Nat) (hst : Nat → Nat → Nat), o < 4 ∧ kn ≤ 4 ∧ tb_Ho h x o kn ∧ tb_Hr h x ∧ (∀ p, p < 4 → tb_St h (tb_ha x p) (hst p)) ∧ ∀ i, i < kn → ∀ j, j < 368 → hst ((o + i) % 4) j = hs i j
section H1
variable {E : tb_env} {d : Nat} {h : tb_heap} {nx : Nat} {Q : Option Value → tb_heap → Nat → Prop} {x : Nat} {s : Nat → Nat}
theorem tb_Ho.g {o kn : Nat} (h0 : tb_Ho h x o kn) : tb_gf h (x + 82) 1 0 = some (.ref (x + 83)) ∧ tb_gf h (x + 82) 1 1 = some (.int (nI o)) ∧ tb_gf h (x + 82) 1 2 = some (.int (nI kn)) := by
  unfold tb_gf
  rw [h0]
  exact ⟨rfl, rfl, rfl⟩
theorem tb_Hr.ld (hS : tb_Hr h x) {j : Nat} (hj : j < 4) {K : Nat → Prop} : tb_wF (tb_ald h (x + 83) (nI j)) K = K (tb_ha x j) := by
  obtain ⟨g, h1, h2⟩ := hS
  have e : tb_ald h (x + 83) (nI j) = some (tb_ha x j) := by
    unfold tb_ald
    rw [h1]
    dsimp only
    rw [nI_clamp (by omega), if_neg (fun q => q.elim (fun q => by rw [e_lt0 (by omega)] at q; exact q) (fun q => by omega)), h2 j hj]
  rw [e]
  rfl
theorem tb_Hr.fr {h' : tb_heap} (hS : tb_Hr h x) (hF : h' (x + 83) = h (x + 83)) : tb_Hr h' x := by
  obtain ⟨g, h1, h2⟩ := hS
  exact ⟨g, hF.trans h1, h2⟩
theorem tb_Hi.fr {h' : tb_heap} {hs : Nat → Nat → Nat} {kn : Nat} (hH : tb_Hi h x hs kn) (hF : ∀ q, x + 82 ≤ q → q < x + 192 → h' q = h q) : tb_Hi h' x hs kn := by
  obtain ⟨o, hst, a1, a2, a3, a4, a5, a6⟩ := hH
  exact ⟨o, hst, a1, a2, (hF _ (by omega) (by omega)).trans a3, a4.fr (hF _ (by omega) (by omega)), fun p hp => (a5 p hp).fr (fun q h1 h2 => hF q (by unfold tb_ha at h1; omega) (by unfold tb_ha at h2; omega)), a6⟩
theorem e_remN {a d : Nat} (h0 : 0 < d) (ha : a < 2 ^ 31) (hd : d < 2 ^ 31) : nI a - nI a / nI d * nI d = nI (a % d) := pk_rem ha h0 hd
theorem h_rec_b {k o : Nat} {hst : Nat → Nat → Nat} (hk : k < 4) (ho : o < 4) (h0 : tb_Ho h x o k) (hr : tb_Hr h x) (hp : ∀ p, p < 4 → tb_St h (tb_ha x p) (hst p)) (hA : tb_St h (x + 28) s) (hm : sp_mb s) (hd : 3 ≤ d) (hQ : ∀ h', tb_Ho h' x o (k + 1) → tb_Hr h' x → (∀ p, p < 4 → tb_St h' (tb_ha x p) (if p = (o + k) % 4 then s else hst p)) → (∀ q, q < x + 82 ∨ x + 192 ≤ q → h' q = h q) → Q none h' nx) :
    tb_wp E d 17 30 [.ref (x + 82), .ref (x + 28)] [] h nx 0 0 Q := by
  have g := h0.g
  have hi : (o + k) % 4 < 4 := Nat.mod_lt _ (by decide)
  have four : ¬ nI 4 = 0 := by decide
  have rem : nI (o + k) - nI (o + k) / nI 4 * nI 4 = nI ((o + k) % 4) := e_remN (by decide) (by omega) (by decide)
  have hSi := hp _ hi
  have oS := hSi.1.O
  simp (disch := first | assumption | omega | exact tb_sm0 | exact tb_sm1 _ | exact tb_sm2 _ _ | exact tb_sm3 _ _ _ | exact tb_sm4 _ _ _ _ | exact Or.inl rfl | exact Or.inr rfl | fail) only [r17_0, r17_1, r17_4, r17_5, r17_8, r17_9, r17_10, r17_13, r17_14, r17_15, r17_16, r17_17, r17_20, r17_21i, r17_21, r17_22, r17_25, r17_26, r17_27, r17_30, r17_31, r17_34, r17_35, r17_38, r17_39, r17_42, r17_43, r17_44, r17_45, r17_46, r17_47, r17_50, r17_51i, r17_51, r17_52, r17_55, r17_56, r17_57, r17_60, g, four, rem, hr.ld hi, tb_vl_some, tb_vl_none, tb_wF_some, nI_add]
  refine s_copyFrom hm hA hSi (by unfold tb_ha; omega) (by omega) (fun h2 hS2 hF2 => ?_)
  have h02 : tb_Ho h2 x o k := (hF2 _ (by unfold tb_ha; omega)).trans h0
  have g2 := h02.g
  simp (disch := first | assumption | omega | exact tb_sm0 | exact tb_sm1 _ | exact tb_sm2 _ _ | exact tb_sm3 _ _ _ | exact tb_sm4 _ _ _ _ | exact Or.inl rfl | exact Or.inr rfl | fail) only [r17_0, r17_1, r17_4, r17_5, r17_8, r17_9, r17_10, r17_13, r17_14, r17_15, r17_16, r17_17, r17_20, r17_21i, r17_21, r17_22, r17_25, r17_26, r17_27, r17_30, r17_31, r17_34, r17_35, r17_38, r17_39, r17_42, r17_43, r17_44, r17_45, r17_46, r17_47, r17_50, r17_51i, r17_51, r17_52, r17_55, r17_56, r17_57, r17_60, g2, tb_vl_some, tb_vl_none, tb_wF_some, nI_add]
  refine tb_pf_ok h02 (by simp) (fun h3 h31 h32 => ?_)
  try simp (disch := first | assumption | omega | exact tb_sm0 | exact tb_sm1 _ | exact tb_sm2 _ _ | exact tb_sm3 _ _ _ | exact tb_sm4 _ _ _ _ | exact Or.inl rfl | exact Or.inr rfl | fail) only [r17_0, r17_1, r17_4, r17_5, r17_8, r17_9, r17_10, r17_13, r17_14, r17_15, r17_16, r17_17, r17_20, r17_21i, r17_21, r17_22, r17_25, r17_26, r17_27, r17_30, r17_31, r17_34, r17_35, r17_38, r17_39, r17_42, r17_43, r17_44, r17_45, r17_46, r17_47, r17_50, r17_51i, r17_51, r17_52, r17_55, r17_56, r17_57, r17_60]
  refine hQ h3 h31 ((hr.fr (hF2 _ (by unfold tb_ha; omega))).fr (h32 _ (by omega))) (fun p hp4 => ?_) (fun q hq => by rw [h32 q (by omega), hF2 q (by unfold tb_ha; omega)])
  by_cases e : p = (o + k) % 4
  · rw [if_pos e, e]
    exact hS2.fr (fun q q1 q2 => h32 q (by unfold tb_ha at q1; omega))
  · rw [if_neg e]
    exact (hp p hp4).fr (fun q q1 q2 => by rw [h32 q (by unfold tb_ha at q1; omega), hF2 q (by unfold tb_ha at *; omega)])
theorem h_record {hs : Nat → Nat → Nat} {kn : Nat} (hH : tb_Hi h x hs kn) (hA : tb_St h (x + 28) s) (hm : sp_mb s) (hd : 3 ≤ d) (hQ : ∀ h', tb_Hi h' x (sp_rec hs kn s).1 (sp_rec hs kn s).2 → (∀ q, q < x + 82 ∨ x + 192 ≤ q → h' q = h q) → Q none h' nx) :
    tb_wp E d 17 0 [.ref (x + 82), .ref (x + 28)] [] h nx 0 0 Q := by
  obtain ⟨o, hst, ho, hk, h0, hr, hp, hh⟩ := hH
  have g := h0.g
  by_cases c : kn = 4
  · subst c
    have e : sp_rec hs 4 s = (fun i => if i = 3 then s else hs (i + 1), 4) := by unfold sp_rec; rw [if_pos rfl]
    rw [e] at hQ
    have four : ¬ nI 4 = 0 := by decide
    have rem : nI (o + 1) - nI (o + 1) / nI 4 * nI 4 = nI ((o + 1) % 4) := e_remN (by decide) (by omega) (by decide)
    simp (disch := first | assumption | omega | exact tb_sm0 | exact tb_sm1 _ | exact tb_sm2 _ _ | exact tb_sm3 _ _ _ | exact tb_sm4 _ _ _ _ | exact Or.inl rfl | exact Or.inr rfl | fail) only [r17_0, r17_1, r17_4, r17_5, r17_8, r17_9, r17_10, r17_13, r17_14, r17_15, r17_16, r17_17, r17_20, r17_21i, r17_21, r17_22, r17_25, r17_26, r17_27, r17_31, r17_34, r17_35, r17_38, r17_39, r17_42, r17_43, r17_44, r17_45, r17_46, r17_47, r17_50, r17_51i, r17_51, r17_52, r17_55, r17_56, r17_57, r17_60, g, four, tb_vl_some, tb_vl_none, tb_wF_some, nI_add, rem, e_lt, if_false, Nat.lt_irrefl, ↓reduceIte]
    refine tb_pf_ok h0 (by simp) (fun h2 h21 h22 => ?_)
    have h02 : tb_Ho h2 x ((o + 1) % 4) 4 := h21
    have g2 := h02.g
    simp (disch := first | assumption | omega | exact tb_sm0 | exact tb_sm1 _ | exact tb_sm2 _ _ | exact tb_sm3 _ _ _ | exact tb_sm4 _ _ _ _ | exact Or.inl rfl | exact Or.inr rfl | fail) only [r17_0, r17_1, r17_4, r17_5, r17_8, r17_9, r17_10, r17_13, r17_14, r17_15, r17_16, r17_17, r17_20, r17_21i, r17_21, r17_22, r17_25, r17_26, r17_27, r17_31, r17_34, r17_35, r17_38, r17_39, r17_42, r17_43, r17_44, r17_45, r17_46, r17_47, r17_50, r17_51i, r17_51, r17_52, r17_55, r17_56, r17_57, r17_60, g2, tb_vl_some, tb_vl_none, tb_wF_some, nI_add, pk_mul, e_sub, e_div, tb_nmod, e_dec, e_le, e_lt, e_eq, e_eq0, e_lt0, e_0le, e_0lt, e_le0, if_true, if_false, not_true_eq_false, not_false_eq_true, ite_true, ite_false, Nat.reduceAdd, Nat.reduceMul, Nat.reduceLeDiff, Nat.reduceLT, Nat.reduceEqDiff, Nat.reduceSub, ↓reduceIte, Nat.reduceDiv, Nat.reduceMod]
    refine tb_pf_ok h02 (by simp) (fun h3 h31 h32 => ?_)
    try simp (disch := first | assumption | omega | exact tb_sm0 | exact tb_sm1 _ | exact tb_sm2 _ _ | exact tb_sm3 _ _ _ | exact tb_sm4 _ _ _ _ | exact Or.inl rfl | exact Or.inr rfl | fail) only [r17_0, r17_1, r17_4, r17_5, r17_8, r17_9, r17_10, r17_13, r17_14, r17_15, r17_16, r17_17, r17_20, r17_21i, r17_21, r17_22, r17_25, r17_26, r17_27, r17_31, r17_34, r17_35, r17_38, r17_39, r17_42, r17_43, r17_44, r17_45, r17_46, r17_47, r17_50, r17_51i, r17_51, r17_52, r17_55, r17_56, r17_57, r17_60]
    have fr : ∀ q, q ≠ x + 82 → h3 q = h q := fun q hq => by rw [h32 q hq, h22 q hq]
    refine h_rec_b (k := 3) (o := (o + 1) % 4) (hst := hst) (by decide) (Nat.mod_lt _ (by decide)) h31 (hr.fr (fr _ (by omega))) (fun p hp4 => (hp p hp4).fr (fun q q1 q2 => fr q (by unfold tb_ha at q1; omega))) (hA.fr (fun q q1 q2 => fr q (by omega))) hm hd (fun h4 k1 k2 k3 k4 => ?_)
    refine hQ h4 ⟨(o + 1) % 4, _, Nat.mod_lt _ (by decide), Nat.le_refl 4, k1, k2, k3, fun i hi j hj => ?_⟩ (fun q hq => by rw [k4 q hq, fr q (by omega)])
    dsimp only
    by_cases e3 : i = 3
    · rw [if_pos e3, if_pos (by omega)]
    · rw [if_neg e3, if_neg (by omega)]
      have := hh (i + 1) (by omega) j hj
      rw [show ((o + 1) % 4 + i) % 4 = (o + (i + 1)) % 4 by omega]
      exact this
  · have e : sp_rec hs kn s = (fun i => if i = kn then s else hs i, kn + 1) := by unfold sp_rec; rw [if_neg c]
    rw [e] at hQ
    have hlt : kn < 4 := by omega
    simp (disch := first | assumption | omega | exact tb_sm0 | exact tb_sm1 _ | exact tb_sm2 _ _ | exact tb_sm3 _ _ _ | exact tb_sm4 _ _ _ _ | exact Or.inl rfl | exact Or.inr rfl | fail) only [r17_0, r17_1, r17_4, r17_5, r17_8, r17_9, r17_10, r17_13, r17_14, r17_15, r17_16, r17_17, r17_20, r17_21i, r17_21, r17_22, r17_25, r17_26, r17_27, r17_31, r17_34, r17_35, r17_38, r17_39, r17_42, r17_43, r17_44, r17_45, r17_46, r17_47, r17_50, r17_51i, r17_51, r17_52, r17_55, r17_56, r17_57, r17_60, g, hlt, tb_vl_some, tb_vl_none, tb_wF_some, nI_add, pk_mul, e_sub, e_div, tb_nmod, e_dec, e_le, e_lt, e_eq, e_eq0, e_lt0, e_0le, e_0lt, e_le0, if_true, if_false, not_true_eq_false, not_false_eq_true, ite_true, ite_false, Nat.reduceAdd, Nat.reduceMul, Nat.reduceLeDiff, Nat.reduceLT, Nat.reduceEqDiff, Nat.reduceSub, ↓reduceIte, Nat.reduceDiv, Nat.reduceMod]
    refine h_rec_b (hst := hst) hlt ho h0 hr hp hA hm hd (fun h4 k1 k2 k3 k4 => ?_)
    refine hQ h4 ⟨o, _, ho, by omega, k1, k2, k3, fun i hi j hj => ?_⟩ k4
    dsimp only
    dsimp only at hi
    by_cases e3 : i = kn
    · rw [if_pos e3, if_pos (by rw [e3])]
    · rw [if_neg e3, if_neg (by omega)]
      exact hh i (by omega) j hj
theorem h_takeLatest {hs : Nat → Nat → Nat} {kn : Nat} (hH : tb_Hi h x hs (kn + 1)) (hA : tb_St h (x + 1) s) (hm : sp_mb (hs kn)) (hd : 3 ≤ d) (hQ : ∀ h', tb_Hi h' x hs kn → tb_St h' (x + 1) (hs kn) → (∀ q, ¬ (x + 1 ≤ q ∧ q < x + 28) → ¬ q = x + 82 → h' q = h q) → Q none h' nx) :
    tb_wp E d 18 0 [.ref (x + 82), .ref (x + 1)] [] h nx 0 0 Q := by
  obtain ⟨o, hst, ho, hk, h0, hr, hp, hh⟩ := hH
  have g := h0.g
  have hi : (o + kn) % 4 < 4 := Nat.mod_lt _ (by decide)
  have four : ¬ nI 4 = 0 := by decide
  have rem : nI (o + kn) - nI (o + kn) / nI 4 * nI 4 = nI ((o + kn) % 4) := e_remN (by decide) (by omega) (by decide)
  have hne : ¬ kn + 1 = 0 := by omega
  simp (disch := first | assumption | omega | exact tb_sm0 | exact tb_sm1 _ | exact tb_sm2 _ _ | exact tb_sm3 _ _ _ | exact tb_sm4 _ _ _ _ | exact Or.inl rfl | exact Or.inr rfl | fail) only [r18_0, r18_1, r18_4, r18_7, r18_8i, r18_8, r18_9, r18_12, r18_13, r18_14, r18_17, r18_18, r18_19, r18_22, r18_23, r18_26, r18_27, r18_30, r18_31, r18_32, r18_33, r18_34, r18_37, g, hne, tb_vl_some, tb_vl_none, tb_wF_some, nI_add, pk_mul, e_sub, e_div, tb_nmod, e_dec, e_le, e_lt, e_eq, e_eq0, e_lt0, e_0le, e_0lt, e_le0, if_true, if_false, not_true_eq_false, not_false_eq_true, ite_true, ite_false, Nat.reduceAdd, Nat.reduceMul, Nat.reduceLeDiff, Nat.reduceLT, Nat.reduceEqDiff, Nat.reduceSub, ↓reduceIte, Nat.reduceDiv, Nat.reduceMod, Nat.add_sub_cancel]
  refine tb_pf_ok h0 (by simp) (fun h2 h21 h22 => ?_)
  have h02 : tb_Ho h2 x o kn := h21
  have g2 := h02.g
  have hr2 := hr.fr (h22 _ (by omega))
  have hA2 := hA.fr (h' := h2) (fun q q1 q2 => h22 q (by omega))
  have oA := hA2.1.O
  simp (disch := first | assumption | omega | exact tb_sm0 | exact tb_sm1 _ | exact tb_sm2 _ _ | exact tb_sm3 _ _ _ | exact tb_sm4 _ _ _ _ | exact Or.inl rfl | exact Or.inr rfl | fail) only [r18_0, r18_1, r18_4, r18_7, r18_8i, r18_8, r18_9, r18_12, r18_13, r18_14, r18_17, r18_18, r18_19, r18_22, r18_23, r18_26, r18_27, r18_30, r18_31, r18_32, r18_33, r18_34, r18_37, g2, four, rem, hr2.ld hi, tb_vl_some, tb_vl_none, tb_wF_some, nI_add]
  refine s_copyFrom (fun j hj => by rw [hh kn (by omega) (208 + j) (by omega)]; exact hm j hj) ((hp _ hi).fr (fun q q1 q2 => h22 q (by unfold tb_ha at q1; omega))) hA2 (by unfold tb_ha; omega) (by omega) (fun h3 hS3 hF3 => ?_)
  try simp (disch := first | assumption | omega | exact tb_sm0 | exact tb_sm1 _ | exact tb_sm2 _ _ | exact tb_sm3 _ _ _ | exact tb_sm4 _ _ _ _ | exact Or.inl rfl | exact Or.inr rfl | fail) only [r18_0, r18_1, r18_4, r18_7, r18_8i, r18_8, r18_9, r18_12, r18_13, r18_14, r18_17, r18_18, r18_19, r18_22, r18_23, r18_26, r18_27, r18_30, r18_31, r18_32, r18_33, r18_34, r18_37, tb_vl_some, tb_vl_none, tb_wF_some]
  refine hQ h3 ⟨o, hst, ho, by omega, (hF3 _ (by omega)).trans h02, hr2.fr (hF3 _ (by omega)), fun p hp4 => (hp p hp4).fr (fun q q1 q2 => by rw [hF3 q (by unfold tb_ha at q1; omega), h22 q (by unfold tb_ha at q1; omega)]), fun i hi => hh i (by omega)⟩ (hS3.of (fun j hj => (hh kn (by omega) j hj).symm)) (fun q q1 q2 => by rw [hF3 q (by omega), h22 q q2])
end H1
