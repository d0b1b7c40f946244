/-! THE REFERENCE: the whole object, records, acts -/
theorem tb_pf_ok {h : tb_heap} {a ci k : Nat} {v : Value} {fs : List Value} (h0 : h a = some (.inl (ci, fs))) (hk : k < fs.length) {K : tb_heap → Prop} (hK : ∀ h', h' a = some (.inl (ci, fs.set k v)) → (∀ q, q ≠ a → h' q = h q) → K h') : tb_wF (tb_pf h a ci k v) K := by
  have e : tb_pf h a ci k v = some (tb_up h a (.inl (ci, fs.set k v))) := by
    unfold tb_pf
    rw [h0]
    simp [hk]
  rw [e]
  exact hK _ (by simp [tb_up]) (fun q hq => by simp [tb_up, hq])
/-- snapshot, whether there is one, text, its length, the latest stop -/
abbrev sp_G : Type := (Nat → Nat) × Nat × (Nat → Nat) × Nat × Int32 × Int32
def tb_MG (h : tb_heap) (m : Nat) (s : Nat → Nat) (kn : Int32) (g : sp_G) (po wr sp : Int32) (as ah cm od : Nat → Int32) (bf : Nat → Nat) : Prop :=
  tb_Mo h m (nI g.2.1) kn (nI g.2.2.2.1) g.2.2.2.2.1 g.2.2.2.2.2 po wr sp ∧ tb_isA h (m + 1) 0 368 (fun j => nI (s j)) ∧ tb_isA h (m + 2) 0 368 as ∧ tb_isA h (m + 3) 0 368 ah ∧ tb_isA h (m + 4) 0 368 (fun j => nI (g.1 j)) ∧ tb_isA h (m + 5) 0 1472 (fun j => nI (bf j)) ∧ tb_isA h (m + 6) 0 60 (fun j => nI (g.2.2.1 j)) ∧ tb_isA h (m + 7) 0 32 cm ∧ tb_isA h (m + 8) 0 5 od
def sp_hist (hs : Nat → Nat → Nat) (kn : Nat) (bf : Nat → Nat) : Prop := kn ≤ 4 ∧ ∀ i, i < kn → ∀ j, j < 368 → bf (368 * i + j) = hs i j
def tb_MF (h : tb_heap) (m : Nat) (s : Nat → Nat) (hs : Nat → Nat → Nat) (kn : Nat) (g : sp_G) : Prop := ∃ po wr sp as ah cm od bf, tb_MG h m s (nI kn) g po wr sp as ah cm od bf ∧ sp_hist hs kn bf
/-- what lies outside the model stays -/
def tb_out (h h' : tb_heap) (lo hi : Nat) : Prop := ∀ q, q < lo ∨ hi ≤ q → h' q = h q
theorem tb_out.rf {h : tb_heap} {lo hi : Nat} : tb_out h h lo hi := fun _ _ => rfl
theorem tb_out.tr {h h' h'' : tb_heap} {lo hi : Nat} (h1 : tb_out h h' lo hi) (h2 : tb_out h' h'' lo hi) : tb_out h h'' lo hi := fun q hq => (h2 q hq).trans (h1 q hq)
theorem tb_MG.S {h : tb_heap} {m : Nat} {s : Nat → Nat} {kn : Int32} {g : sp_G} {po wr sp : Int32} {as ah cm od : Nat → Int32} {bf : Nat → Nat} (h0 : tb_MG h m s kn g po wr sp as ah cm od bf) : tb_MS h m s := h0.1.S h0.2.1
theorem tb_MG.upS {h h' : tb_heap} {m : Nat} {s s' : Nat → Nat} {kn : Int32} {g : sp_G} {po wr sp : Int32} {as ah cm od cm' : Nat → Int32} {bf : Nat → Nat} (h0 : tb_MG h m s kn g po wr sp as ah cm od bf) (hS : tb_MS h' m s') (hC : tb_isA h' (m + 7) 0 32 cm') (hF : ∀ q, q ≠ m + 1 → q ≠ m + 7 → h' q = h q) : tb_MG h' m s' kn g po wr sp as ah cm' od bf := by
  obtain ⟨a1, a2, a3, a4, a5, a6, a7, a8, a9⟩ := h0
  exact ⟨(hF m (by omega) (by omega)).trans a1, hS.2, a3.to (hF _ (by omega) (by omega)) (fun _ _ => rfl), a4.to (hF _ (by omega) (by omega)) (fun _ _ => rfl), a5.to (hF _ (by omega) (by omega)) (fun _ _ => rfl), a6.to (hF _ (by omega) (by omega)) (fun _ _ => rfl), a7.to (hF _ (by omega) (by omega)) (fun _ _ => rfl), hC, a9.to (hF _ (by omega) (by omega)) (fun _ _ => rfl)⟩
theorem tb_MG.upA {h h' : tb_heap} {m : Nat} {s : Nat → Nat} {kn : Int32} {g : sp_G} {po wr sp : Int32} {as ah cm od ah' : Nat → Int32} {bf : Nat → Nat} (h0 : tb_MG h m s kn g po wr sp as ah cm od bf) (hA : tb_isA h' (m + 3) 0 368 ah') (hF : ∀ q, q ≠ m + 3 → h' q = h q) : tb_MG h' m s kn g po wr sp as ah' cm od bf := by
  obtain ⟨a1, a2, a3, a4, a5, a6, a7, a8, a9⟩ := h0
  exact ⟨(hF m (by omega)).trans a1, a2.to (hF _ (by omega)) (fun _ _ => rfl), a3.to (hF _ (by omega)) (fun _ _ => rfl), hA, a5.to (hF _ (by omega)) (fun _ _ => rfl), a6.to (hF _ (by omega)) (fun _ _ => rfl), a7.to (hF _ (by omega)) (fun _ _ => rfl), a8.to (hF _ (by omega)) (fun _ _ => rfl), a9.to (hF _ (by omega)) (fun _ _ => rfl)⟩
theorem tb_MG.upB {h h' : tb_heap} {m : Nat} {s : Nat → Nat} {kn : Int32} {g : sp_G} {po wr sp : Int32} {as ah cm od : Nat → Int32} {bf bf' : Nat → Nat} (h0 : tb_MG h m s kn g po wr sp as ah cm od bf) (hA : tb_isA h' (m + 5) 0 1472 (fun j => nI (bf' j))) (hF : ∀ q, q ≠ m + 5 → h' q = h q) : tb_MG h' m s kn g po wr sp as ah cm od bf' := by
  obtain ⟨a1, a2, a3, a4, a5, a6, a7, a8, a9⟩ := h0
  exact ⟨(hF m (by omega)).trans a1, a2.to (hF _ (by omega)) (fun _ _ => rfl), a3.to (hF _ (by omega)) (fun _ _ => rfl), a4.to (hF _ (by omega)) (fun _ _ => rfl), a5.to (hF _ (by omega)) (fun _ _ => rfl), hA, a7.to (hF _ (by omega)) (fun _ _ => rfl), a8.to (hF _ (by omega)) (fun _ _ => rfl), a9.to (hF _ (by omega)) (fun _ _ => rfl)⟩
theorem tb_MG.upO {h h' : tb_heap} {m : Nat} {s : Nat → Nat} {kn kn' : Int32} {g : sp_G} {g' : sp_G} {po wr sp po' wr' sp' : Int32} {as ah cm od : Nat → Int32} {bf : Nat → Nat} (h0 : tb_MG h m s kn g po wr sp as ah cm od bf) (hO : tb_Mo h' m (nI g'.2.1) kn' (nI g'.2.2.2.1) g'.2.2.2.2.1 g'.2.2.2.2.2 po' wr' sp') (hg : g'.1 = g.1 ∧ g'.2.2.1 = g.2.2.1) (hF : ∀ q, q ≠ m → h' q = h q) : tb_MG h' m s kn' g' po' wr' sp' as ah cm od bf := by
  obtain ⟨a1, a2, a3, a4, a5, a6, a7, a8, a9⟩ := h0
  refine ⟨hO, a2.to (hF _ (by omega)) (fun _ _ => rfl), a3.to (hF _ (by omega)) (fun _ _ => rfl), a4.to (hF _ (by omega)) (fun _ _ => rfl), a5.to (hF _ (by omega)) (fun _ _ => by rw [hg.1]), a6.to (hF _ (by omega)) (fun _ _ => rfl), a7.to (hF _ (by omega)) (fun _ _ => by rw [hg.2]), a8.to (hF _ (by omega)) (fun _ _ => rfl), a9.to (hF _ (by omega)) (fun _ _ => rfl)⟩
def sp_rec (hs : Nat → Nat → Nat) (kn : Nat) (s : Nat → Nat) : (Nat → Nat → Nat) × Nat := if kn = 4 then (fun i => if i = 3 then s else hs (i + 1), 4) else (fun i => if i = kn then s else hs i, kn + 1)
section M6
variable {E : tb_env} {d : Nat} {h : tb_heap} {nx : Nat} {Q : Option Value → tb_heap → Nat → Prop}
theorem m_rec_a {m : Nat} {s : Nat → Nat} {kn : Int32} {g : sp_G} {po wr sp : Int32} {as ah cm od : Nat → Int32} {bf0 : Nat → Nat} (n : Nat) : ∀ (i : Nat) (h : tb_heap) (bf : Nat → Nat), i + n = 1104 → tb_MG h m s kn g po wr sp as ah cm od bf → (∀ j, bf j = if j < i then bf0 (368 + j) else bf0 j) → (∀ h' bf', tb_MG h' m s kn g po wr sp as ah cm od bf' → (∀ j, bf' j = if j < 1104 then bf0 (368 + j) else bf0 j) → (∀ q, q ≠ m + 5 → h' q = h q) → tb_wp E d 98 39 [.ref m, .int (nI 1104)] [] h' nx 0 0 Q) →
    tb_wp E d 98 10 [.ref m, .int (nI i)] [] h nx 0 0 Q := by
  induction n with
  | zero =>
    intro i h bf hi hM hb hQ
    simp (disch := first | assumption | omega | exact tb_sm0 | exact tb_sm1 _ | exact tb_sm2 _ _ | exact tb_sm3 _ _ _ | exact tb_sm4 _ _ _ _ | exact Or.inl rfl | exact Or.inr rfl | fail) only [r98_10, r98_11, r98_14, nI_add, pk_mul, e_sub, e_div, tb_nmod, e_dec, e_le, e_lt, e_eq, e_eq0, e_lt0, e_0le, e_0lt, e_le0, if_true, if_false, not_true_eq_false, not_false_eq_true, ite_true, ite_false, Nat.reduceAdd, Nat.reduceMul, Nat.reduceLeDiff, Nat.reduceLT, Nat.reduceEqDiff, Nat.reduceSub, ↓reduceIte, Nat.reduceDiv, Nat.reduceMod]
    rw [if_pos (by omega)]
    have e : i = 1104 := by omega
    subst e
    exact hQ h bf hM hb (fun _ _ => rfl)
  | succ n ih =>
    intro i h bf hi hM hb hQ
    have g0 := hM.1.g
    have A := hM.2.2.2.2.2.1
    have ld : ∀ {j : Nat} (hj : j < 1472) {K : Int32 → Prop}, tb_wF (tb_ld E h 0 (m + 5) (nI j)) K = K (nI (bf j)) := fun hj => A.ld hj (by decide)
    simp (disch := first | assumption | omega | exact tb_sm0 | exact tb_sm1 _ | exact tb_sm2 _ _ | exact tb_sm3 _ _ _ | exact tb_sm4 _ _ _ _ | exact Or.inl rfl | exact Or.inr rfl | fail) only [r98_10, r98_11, r98_14, nI_add, pk_mul, e_sub, e_div, tb_nmod, e_dec, e_le, e_lt, e_eq, e_eq0, e_lt0, e_0le, e_0lt, e_le0, if_true, if_false, not_true_eq_false, not_false_eq_true, ite_true, ite_false, Nat.reduceAdd, Nat.reduceMul, Nat.reduceLeDiff, Nat.reduceLT, Nat.reduceEqDiff, Nat.reduceSub, ↓reduceIte, Nat.reduceDiv, Nat.reduceMod]
    rw [if_neg (by omega)]
    simp (disch := first | assumption | omega | exact tb_sm0 | exact tb_sm1 _ | exact tb_sm2 _ _ | exact tb_sm3 _ _ _ | exact tb_sm4 _ _ _ _ | exact Or.inl rfl | exact Or.inr rfl | fail) only [r98_0, r98_1, r98_4, r98_5, r98_8, r98_9, r98_11, r98_14, r98_17, r98_18, r98_21, r98_22, r98_23, r98_26, r98_29, r98_30, r98_31, r98_32, r98_33, r98_36, r98_40i, r98_40, r98_41, r98_44, r98_45, r98_46, r98_49, r98_50, r98_51, r98_52, r98_55, r98_58, r98_59, r98_62, r98_65, r98_66, r98_69, r98_70, r98_71, r98_72, r98_73, r98_76, r98_77, r98_78, r98_79, r98_82, r98_85, r98_86i, r98_86, r98_87, r98_90, r98_91, r98_92, r98_95, g0, ld, tb_vl_some, tb_vl_none, tb_wF_some, nI_add, pk_mul, e_sub, e_div, tb_nmod, e_dec, e_le, e_lt, e_eq, e_eq0, e_lt0, e_0le, e_0lt, e_le0, if_true, if_false, not_true_eq_false, not_false_eq_true, ite_true, ite_false, Nat.reduceAdd, Nat.reduceMul, Nat.reduceLeDiff, Nat.reduceLT, Nat.reduceEqDiff, Nat.reduceSub, ↓reduceIte, Nat.reduceDiv, Nat.reduceMod]
    refine A.st (by omega) (by decide) (fun h2 hA2 hF2 => ?_)
    refine ih (i + 1) h2 (va_up bf i (bf (368 + i))) (by omega) (hM.upB (hA2.to rfl (fun j _ => ?_)) hF2) (fun j => ?_) (fun h3 bf3 hM3 hb3 hF3 => hQ h3 bf3 hM3 hb3 (fun q hq => by rw [hF3 q hq, hF2 q hq]))
    · unfold upd va_up
      dsimp only
      split <;> rfl
    · unfold va_up
      by_cases c : j = i
      · rw [if_pos c, if_pos (by omega), hb, if_neg (by omega), c]
      · rw [if_neg c, hb j]
        by_cases c2 : j < i
        · rw [if_pos c2, if_pos (by omega)]
        · rw [if_neg c2, if_neg (by omega)]
theorem m_rec_b {m k : Nat} (hk : k < 4) {s : Nat → Nat} {g : sp_G} {po wr sp : Int32} {as cm od : Nat → Int32} {a0 bf0 : Nat → Nat} (n : Nat) : ∀ (i : Nat) (h : tb_heap) (bf : Nat → Nat), i + n = 368 → tb_MG h m s (nI k) g po wr sp as (fun j => nI (a0 j)) cm od bf → (∀ j, bf j = if 368 * k ≤ j ∧ j < 368 * k + i then a0 (j - 368 * k) else bf0 j) → (∀ h' bf', tb_MG h' m s (nI (k + 1)) g po wr sp as (fun j => nI (a0 j)) cm od bf' → (∀ j, bf' j = if 368 * k ≤ j ∧ j < 368 * k + 368 then a0 (j - 368 * k) else bf0 j) → (∀ q, q ≠ m + 5 → q ≠ m → h' q = h q) → Q none h' nx) →
    tb_wp E d 98 51 [.ref m, .int (nI i)] [] h nx 0 0 Q := by
  induction n with
  | zero =>
    intro i h bf hi hM hb hQ
    have g0 := hM.1.g
    simp (disch := first | assumption | omega | exact tb_sm0 | exact tb_sm1 _ | exact tb_sm2 _ _ | exact tb_sm3 _ _ _ | exact tb_sm4 _ _ _ _ | exact Or.inl rfl | exact Or.inr rfl | fail) only [r98_51, r98_52, r98_55, nI_add, pk_mul, e_sub, e_div, tb_nmod, e_dec, e_le, e_lt, e_eq, e_eq0, e_lt0, e_0le, e_0lt, e_le0, if_true, if_false, not_true_eq_false, not_false_eq_true, ite_true, ite_false, Nat.reduceAdd, Nat.reduceMul, Nat.reduceLeDiff, Nat.reduceLT, Nat.reduceEqDiff, Nat.reduceSub, ↓reduceIte, Nat.reduceDiv, Nat.reduceMod]
    rw [if_pos (by omega)]
    have e : i = 368 := by omega
    subst e
    simp (disch := first | assumption | omega | exact tb_sm0 | exact tb_sm1 _ | exact tb_sm2 _ _ | exact tb_sm3 _ _ _ | exact tb_sm4 _ _ _ _ | exact Or.inl rfl | exact Or.inr rfl | fail) only [r98_0, r98_1, r98_4, r98_5, r98_8, r98_9, r98_11, r98_14, r98_17, r98_18, r98_21, r98_22, r98_23, r98_26, r98_29, r98_30, r98_31, r98_32, r98_33, r98_36, r98_39, r98_40i, r98_40, r98_41, r98_44, r98_45, r98_46, r98_49, r98_50, r98_52, r98_55, r98_58, r98_59, r98_62, r98_65, r98_66, r98_69, r98_70, r98_71, r98_72, r98_73, r98_76, r98_77, r98_78, r98_79, r98_82, r98_85, r98_86i, r98_86, r98_87, r98_90, r98_91, r98_92, r98_95, g0, tb_vl_some, tb_vl_none, tb_wF_some, nI_add, pk_mul, e_sub, e_div, tb_nmod, e_dec, e_le, e_lt, e_eq, e_eq0, e_lt0, e_0le, e_0lt, e_le0, if_true, if_false, not_true_eq_false, not_false_eq_true, ite_true, ite_false, Nat.reduceAdd, Nat.reduceMul, Nat.reduceLeDiff, Nat.reduceLT, Nat.reduceEqDiff, Nat.reduceSub, ↓reduceIte, Nat.reduceDiv, Nat.reduceMod]
    refine tb_pf_ok hM.1 (by simp) (fun h2 h21 h22 => ?_)
    exact hQ h2 bf (hM.upO h21 ⟨rfl, rfl⟩ h22) hb (fun q _ hq => h22 q hq)
  | succ n ih =>
    intro i h bf hi hM hb hQ
    have g0 := hM.1.g
    have A := hM.2.2.2.2.2.1
    have ld : ∀ {j : Nat} (hj : j < 368) {K : Int32 → Prop}, tb_wF (tb_ld E h 0 (m + 3) (nI j)) K = K (nI (a0 j)) := fun hj => hM.2.2.2.1.ld hj (by decide)
    simp (disch := first | assumption | omega | exact tb_sm0 | exact tb_sm1 _ | exact tb_sm2 _ _ | exact tb_sm3 _ _ _ | exact tb_sm4 _ _ _ _ | exact Or.inl rfl | exact Or.inr rfl | fail) only [r98_51, r98_52, r98_55, nI_add, pk_mul, e_sub, e_div, tb_nmod, e_dec, e_le, e_lt, e_eq, e_eq0, e_lt0, e_0le, e_0lt, e_le0, if_true, if_false, not_true_eq_false, not_false_eq_true, ite_true, ite_false, Nat.reduceAdd, Nat.reduceMul, Nat.reduceLeDiff, Nat.reduceLT, Nat.reduceEqDiff, Nat.reduceSub, ↓reduceIte, Nat.reduceDiv, Nat.reduceMod]
    rw [if_neg (by omega)]
    simp (disch := first | assumption | omega | exact tb_sm0 | exact tb_sm1 _ | exact tb_sm2 _ _ | exact tb_sm3 _ _ _ | exact tb_sm4 _ _ _ _ | exact Or.inl rfl | exact Or.inr rfl | fail) only [r98_0, r98_1, r98_4, r98_5, r98_8, r98_9, r98_11, r98_14, r98_17, r98_18, r98_21, r98_22, r98_23, r98_26, r98_29, r98_30, r98_31, r98_32, r98_33, r98_36, r98_39, r98_40i, r98_40, r98_41, r98_44, r98_45, r98_46, r98_49, r98_50, r98_52, r98_55, r98_58, r98_59, r98_62, r98_65, r98_66, r98_69, r98_70, r98_71, r98_72, r98_73, r98_76, r98_77, r98_78, r98_79, r98_82, r98_85, r98_86i, r98_86, r98_87, r98_90, r98_91, r98_92, r98_95, g0, ld, tb_vl_some, tb_vl_none, tb_wF_some, nI_add, pk_mul, e_sub, e_div, tb_nmod, e_dec, e_le, e_lt, e_eq, e_eq0, e_lt0, e_0le, e_0lt, e_le0, if_true, if_false, not_true_eq_false, not_false_eq_true, ite_true, ite_false, Nat.reduceAdd, Nat.reduceMul, Nat.reduceLeDiff, Nat.reduceLT, Nat.reduceEqDiff, Nat.reduceSub, ↓reduceIte, Nat.reduceDiv, Nat.reduceMod]
    refine A.st (by omega) (by decide) (fun h2 hA2 hF2 => ?_)
    refine ih (i + 1) h2 (va_up bf (368 * k + i) (a0 i)) (by omega) (hM.upB (hA2.to rfl (fun j _ => ?_)) hF2) (fun j => ?_) (fun h3 bf3 hM3 hb3 hF3 => hQ h3 bf3 hM3 hb3 (fun q q1 q2 => by rw [hF3 q q1 q2, hF2 q q1]))
    · unfold upd va_up
      dsimp only
      split <;> rfl
    · unfold va_up
      by_cases c : j = 368 * k + i
      · rw [if_pos c, if_pos (by omega), show j - 368 * k = i by omega]
      · rw [if_neg c, hb j]
        by_cases c2 : 368 * k ≤ j ∧ j < 368 * k + i
        · rw [if_pos c2, if_pos (by omega)]
        · rw [if_neg c2, if_neg (by omega)]
theorem m_records {m kn : Nat} {s a0 : Nat → Nat} {hs : Nat → Nat → Nat} {g : sp_G} {po wr sp : Int32} {as cm od : Nat → Int32} {bf : Nat → Nat} (hM : tb_MG h m s (nI kn) g po wr sp as (fun j => nI (a0 j)) cm od bf) (hH : sp_hist hs kn bf) (hQ : ∀ h' bf', tb_MG h' m s (nI (sp_rec hs kn a0).2) g po wr sp as (fun j => nI (a0 j)) cm od bf' → sp_hist (sp_rec hs kn a0).1 (sp_rec hs kn a0).2 bf' → (∀ q, q ≠ m + 5 → q ≠ m → h' q = h q) → Q none h' nx) :
    tb_wp E d 98 0 [.ref m, .long 0] [] h nx 0 0 Q := by
  obtain ⟨hk4, hH⟩ := hH
  have g0 := hM.1.g
  by_cases c : kn = 4
  · subst c
    simp (disch := first | assumption | omega | exact tb_sm0 | exact tb_sm1 _ | exact tb_sm2 _ _ | exact tb_sm3 _ _ _ | exact tb_sm4 _ _ _ _ | exact Or.inl rfl | exact Or.inr rfl | fail) only [r98_0, r98_1, r98_4, r98_5, r98_8, r98_9, g0, tb_vl_some, tb_vl_none, tb_wF_some, nI_add, pk_mul, e_sub, e_div, tb_nmod, e_dec, e_le, e_lt, e_eq, e_eq0, e_lt0, e_0le, e_0lt, e_le0, if_true, if_false, not_true_eq_false, not_false_eq_true, ite_true, ite_false, Nat.reduceAdd, Nat.reduceMul, Nat.reduceLeDiff, Nat.reduceLT, Nat.reduceEqDiff, Nat.reduceSub, ↓reduceIte, Nat.reduceDiv, Nat.reduceMod]
    refine m_rec_a 1104 0 h bf rfl hM (fun j => by rw [if_neg (by omega)]) (fun h2 bf2 hM2 hb2 hF2 => ?_)
    have g2 := hM2.1.g
    simp (disch := first | assumption | omega | exact tb_sm0 | exact tb_sm1 _ | exact tb_sm2 _ _ | exact tb_sm3 _ _ _ | exact tb_sm4 _ _ _ _ | exact Or.inl rfl | exact Or.inr rfl | fail) only [r98_1, r98_4, r98_5, r98_8, r98_9, r98_11, r98_14, r98_17, r98_18, r98_21, r98_22, r98_23, r98_26, r98_29, r98_30, r98_31, r98_32, r98_33, r98_36, r98_39, r98_40i, r98_40, r98_41, r98_44, r98_45, r98_46, r98_49, r98_50, r98_52, r98_55, r98_58, r98_59, r98_62, r98_65, r98_66, r98_69, r98_70, r98_71, r98_72, r98_73, r98_76, r98_77, r98_78, r98_79, r98_82, r98_85, r98_86i, r98_86, r98_87, r98_90, r98_91, r98_92, r98_95, g2, tb_vl_some, tb_vl_none, tb_wF_some, nI_add, pk_mul, e_sub, e_div, tb_nmod, e_dec, e_le, e_lt, e_eq, e_eq0, e_lt0, e_0le, e_0lt, e_le0, if_true, if_false, not_true_eq_false, not_false_eq_true, ite_true, ite_false, Nat.reduceAdd, Nat.reduceMul, Nat.reduceLeDiff, Nat.reduceLT, Nat.reduceEqDiff, Nat.reduceSub, ↓reduceIte, Nat.reduceDiv, Nat.reduceMod]
    refine tb_pf_ok hM2.1 (by simp) (fun h3 h31 h32 => ?_)
    have hM3 := hM2.upO (g' := g) (po' := po) (wr' := wr) (sp' := sp) (kn' := nI 3) h31 ⟨rfl, rfl⟩ h32
    refine m_rec_b (show 3 < 4 by decide) (bf0 := bf2) 368 0 h3 bf2 rfl hM3 (fun j => by rw [if_neg (by omega)]) (fun h4 bf4 hM4 hb4 hF4 => ?_)
    refine hQ h4 bf4 hM4 ⟨Nat.le_refl 4, fun i hi j hj => ?_⟩ (fun q q1 q2 => by rw [hF4 q q1 q2, h32 q q2, hF2 q q1])
    have hi4 : i < 4 := hi
    show _ = (if i = 3 then a0 else hs (i + 1)) j
    rw [hb4]
    by_cases c3 : i = 3
    · rw [if_pos c3, if_pos (by omega), show 368 * i + j - 368 * 3 = j by omega]
    · rw [if_neg c3, if_neg (by omega), hb2, if_pos (by omega), ← hH (i + 1) (by omega) j hj, show 368 + (368 * i + j) = 368 * (i + 1) + j by omega]
  · simp (disch := first | assumption | omega | exact tb_sm0 | exact tb_sm1 _ | exact tb_sm2 _ _ | exact tb_sm3 _ _ _ | exact tb_sm4 _ _ _ _ | exact Or.inl rfl | exact Or.inr rfl | fail) only [r98_0, r98_1, r98_4, r98_5, r98_49, r98_50, g0, c, tb_vl_some, tb_vl_none, tb_wF_some, nI_add, pk_mul, e_sub, e_div, tb_nmod, e_dec, e_le, e_lt, e_eq, e_eq0, e_lt0, e_0le, e_0lt, e_le0, if_true, if_false, not_true_eq_false, not_false_eq_true, ite_true, ite_false, Nat.reduceAdd, Nat.reduceMul, Nat.reduceLeDiff, Nat.reduceLT, Nat.reduceEqDiff, Nat.reduceSub, ↓reduceIte, Nat.reduceDiv, Nat.reduceMod]
    have e1 : sp_rec hs kn a0 = (fun i => if i = kn then a0 else hs i, kn + 1) := by unfold sp_rec; rw [if_neg c]
    rw [e1] at hQ
    refine m_rec_b (show kn < 4 by omega) (bf0 := bf) 368 0 h bf rfl hM (fun j => by rw [if_neg (by omega)]) (fun h4 bf4 hM4 hb4 hF4 => ?_)
    refine hQ h4 bf4 hM4 ⟨by show kn + 1 ≤ 4; omega, fun i hi j hj => ?_⟩ hF4
    have hi4 : i < kn + 1 := hi
    show _ = (if i = kn then a0 else hs i) j
    rw [hb4]
    by_cases c3 : i = kn
    · rw [if_pos c3, if_pos (by rw [c3]; omega), c3, show 368 * kn + j - 368 * kn = j by omega]
    · rw [if_neg c3]
      have : i < kn := by omega
      rw [if_neg (by omega), hH i this j hj]
/-- the history behind an act that answers r -/
def sp_rc (r : Int32) (hs : Nat → Nat → Nat) (kn : Nat) (s : Nat → Nat) : (Nat → Nat → Nat) × Nat := if r < 0 then (hs, kn) else sp_rec hs kn s
theorem m_acted {m kn : Nat} {r : Int32} {s a0 : Nat → Nat} {hs : Nat → Nat → Nat} {g : sp_G} {po wr sp : Int32} {as cm od : Nat → Int32} {bf : Nat → Nat} (hM : tb_MG h m s (nI kn) g po wr sp as (fun j => nI (a0 j)) cm od bf) (hH : sp_hist hs kn bf) (hd : 1 ≤ d) (hQ : ∀ h', tb_MF h' m s (sp_rc r hs kn a0).1 (sp_rc r hs kn a0).2 g → tb_out h h' m (m + 9) → Q (some (.int r)) h' nx) :
    tb_wp E d 119 0 [.ref m, .int r] [] h nx 0 0 Q := by
  have hO := hM.1.O
  unfold sp_rc at hQ
  by_cases c : r < 0
  · rw [if_pos c] at hQ
    simp (disch := first | assumption | omega | exact tb_sm0 | exact tb_sm1 _ | exact tb_sm2 _ _ | exact tb_sm3 _ _ _ | exact tb_sm4 _ _ _ _ | exact Or.inl rfl | exact Or.inr rfl | fail) only [r119_0, r119_1, r119_4, r119_5, r119_8, r119_9, c, tb_vl_some, tb_vl_none, tb_wF_some, nI_add, pk_mul, e_sub, e_div, tb_nmod, e_dec, e_le, e_lt, e_eq, e_eq0, e_lt0, e_0le, e_0lt, e_le0, if_true, if_false, not_true_eq_false, not_false_eq_true, ite_true, ite_false, Nat.reduceAdd, Nat.reduceMul, Nat.reduceLeDiff, Nat.reduceLT, Nat.reduceEqDiff, Nat.reduceSub, ↓reduceIte, Nat.reduceDiv, Nat.reduceMod]
    exact hQ h ⟨_, _, _, _, _, _, _, _, hM, hH⟩ tb_out.rf
  · rw [if_neg c] at hQ
    simp (disch := first | assumption | omega | exact tb_sm0 | exact tb_sm1 _ | exact tb_sm2 _ _ | exact tb_sm3 _ _ _ | exact tb_sm4 _ _ _ _ | exact Or.inl rfl | exact Or.inr rfl | fail) only [r119_0, r119_1, r119_4, r119_5, r119_8, r119_9, c, tb_vl_some, tb_vl_none, tb_wF_some, nI_add, pk_mul, e_sub, e_div, tb_nmod, e_dec, e_le, e_lt, e_eq, e_eq0, e_lt0, e_0le, e_0lt, e_le0, if_true, if_false, not_true_eq_false, not_false_eq_true, ite_true, ite_false, Nat.reduceAdd, Nat.reduceMul, Nat.reduceLeDiff, Nat.reduceLT, Nat.reduceEqDiff, Nat.reduceSub, ↓reduceIte, Nat.reduceDiv, Nat.reduceMod]
    refine m_records hM hH (fun h2 bf2 hM2 hH2 hF2 => ?_)
    try simp (disch := first | assumption | omega | exact tb_sm0 | exact tb_sm1 _ | exact tb_sm2 _ _ | exact tb_sm3 _ _ _ | exact tb_sm4 _ _ _ _ | exact Or.inl rfl | exact Or.inr rfl | fail) only [r119_0, r119_1, r119_4, r119_5, r119_8, r119_9, tb_vl_some, tb_vl_none, tb_wF_some, nI_add, pk_mul, e_sub, e_div, tb_nmod, e_dec, e_le, e_lt, e_eq, e_eq0, e_lt0, e_0le, e_0lt, e_le0, if_true, if_false, not_true_eq_false, not_false_eq_true, ite_true, ite_false, Nat.reduceAdd, Nat.reduceMul, Nat.reduceLeDiff, Nat.reduceLT, Nat.reduceEqDiff, Nat.reduceSub, ↓reduceIte, Nat.reduceDiv, Nat.reduceMod]
    exact hQ h2 ⟨_, _, _, _, _, _, _, _, hM2, hH2⟩ (fun q hq => hF2 q (by omega) (by omega))
end M6
