/-! THE REFERENCE: the reader of texts -/
def ps_t (tx : Nat → Nat) (le lo hi : Nat) (r : Bool × Nat) : Bool × Nat := if r.1 = true ∧ r.2 < le ∧ lo ≤ tx r.2 ∧ tx r.2 ≤ hi then (true, r.2 + 1) else (false, r.2)
def ps_w (b : Bool) : Nat := if b = true then 0 else 1
abbrev ps_two (tx : Nat → Nat) (le hi p : Nat) : Prop := 48 < tx p ∧ p + 1 < le ∧ 48 ≤ tx (p + 1) ∧ tx (p + 1) ≤ 57 ∧ 10 * (tx p - 48) + (tx (p + 1) - 48) ≤ hi
def ps_num (tx : Nat → Nat) (le lo hi : Nat) (r : Bool × Nat) : Bool × Nat := if (ps_t tx le (48 + lo) 57 r).1 = true ∧ ps_two tx le hi r.2 then (true, r.2 + 2) else ps_t tx le (48 + lo) 57 r
def ps_val (tx : Nat → Nat) (le hi p : Nat) : Nat := if ps_two tx le hi p then 10 * (tx p - 48) + (tx (p + 1) - 48) else tx p - 48
abbrev ps_V : Type := Nat × Nat × Nat × Nat × Nat
abbrev ps_isv (c : Nat) : Prop := c = 116 ∨ c = 112 ∨ c = 106 ∨ c = 101 ∨ c = 46
def ps_ord (tx : Nat → Nat) (le p : Nat) : (Bool × Nat) × ps_V :=
  if ¬ (p < le ∧ ps_isv (tx p)) then ((false, p), (0, 0, 0, 0, 0))
  else if tx p = 46 then (ps_num tx le 1 99 (true, p + 1), (46, 0, 0, 0, ps_val tx le 99 (p + 1)))
  else if tx p = 116 then (ps_num tx le 0 90 (ps_t tx le 61 61 (ps_t tx le 48 52 (true, p + 1))), (116, tx (p + 1) - 48, 0, 0, ps_val tx le 90 (p + 3)))
  else if tx p = 112 then (ps_num tx le 1 99 (ps_t tx le 42 42 (ps_t tx le 48 51 (ps_t tx le 48 55 (ps_t tx le 48 52 (true, p + 1))))), (112, tx (p + 1) - 48, tx (p + 2) - 48, tx (p + 3) - 48, ps_val tx le 99 (p + 5)))
  else (ps_t tx le 48 52 (true, p + 1), (tx p, tx (p + 1) - 48, 0, 0, 0))
theorem ps_t_ok {tx : Nat → Nat} {le lo hi : Nat} {r : Bool × Nat} (h : (ps_t tx le lo hi r).1 = true) : r.1 = true ∧ r.2 < le ∧ lo ≤ tx r.2 ∧ tx r.2 ≤ hi ∧ (ps_t tx le lo hi r).2 = r.2 + 1 := by
  unfold ps_t at h ⊢
  by_cases c : r.1 = true ∧ r.2 < le ∧ lo ≤ tx r.2 ∧ tx r.2 ≤ hi
  · rw [if_pos c]; exact ⟨c.1, c.2.1, c.2.2.1, c.2.2.2, rfl⟩
  · rw [if_neg c] at h; cases h
theorem ps_t_le {tx : Nat → Nat} {le lo hi : Nat} {r : Bool × Nat} (h : r.2 ≤ le) : (ps_t tx le lo hi r).2 ≤ le := by
  unfold ps_t
  by_cases c : r.1 = true ∧ r.2 < le ∧ lo ≤ tx r.2 ∧ tx r.2 ≤ hi
  · rw [if_pos c]; show r.2 + 1 ≤ le; omega
  · rw [if_neg c]; exact h
theorem ps_num_ok {tx : Nat → Nat} {le lo hi : Nat} {r : Bool × Nat} (hh : 9 ≤ hi) (h : (ps_num tx le lo hi r).1 = true) : r.1 = true ∧ r.2 < le ∧ lo ≤ ps_val tx le hi r.2 ∧ ps_val tx le hi r.2 ≤ hi ∧ r.2 + 1 ≤ (ps_num tx le lo hi r).2 ∧ (ps_num tx le lo hi r).2 ≤ le := by
  unfold ps_num at h ⊢
  by_cases c : (ps_t tx le (48 + lo) 57 r).1 = true ∧ ps_two tx le hi r.2
  · rw [if_pos c]
    have k := ps_t_ok c.1
    obtain ⟨c1, c2, c3, c4, c5⟩ := c.2
    unfold ps_val
    rw [if_pos c.2]
    dsimp only
    exact ⟨k.1, k.2.1, by omega, c5, by omega, by omega⟩
  · rw [if_neg c] at h ⊢
    have k := ps_t_ok h
    unfold ps_val
    rw [if_neg (fun q => c ⟨h, q⟩)]
    exact ⟨k.1, k.2.1, by omega, by omega, by omega, by omega⟩
theorem ps_num_le {tx : Nat → Nat} {le lo hi : Nat} {r : Bool × Nat} (h : r.2 ≤ le) : (ps_num tx le lo hi r).2 ≤ le := by
  unfold ps_num
  by_cases c : (ps_t tx le (48 + lo) 57 r).1 = true ∧ ps_two tx le hi r.2
  · rw [if_pos c]; have := c.2.2.1; show r.2 + 2 ≤ le; omega
  · rw [if_neg c]; exact ps_t_le h
theorem ps_ord_le {tx : Nat → Nat} {le p : Nat} (h : p ≤ le) : (ps_ord tx le p).1.2 ≤ le := by
  unfold ps_ord
  by_cases c : p < le ∧ ps_isv (tx p)
  · rw [if_neg (fun q => q c)]
    have h1 : p + 1 ≤ le := c.1
    split
    · exact ps_num_le h1
    · split
      · exact ps_num_le (ps_t_le (ps_t_le h1))
      · split
        · exact ps_num_le (ps_t_le (ps_t_le (ps_t_le (ps_t_le h1))))
        · exact ps_t_le h1
  · rw [if_pos c]; exact h
/-- an order that is no fault -/
theorem ps_ord_ok {tx : Nat → Nat} {le p : Nat} (h : (ps_ord tx le p).1.1 = true) : p + 2 ≤ (ps_ord tx le p).1.2 ∧ (ps_ord tx le p).1.2 ≤ le ∧ ∃ b c k n, b ≤ 4 ∧ c ≤ 7 ∧ k ≤ 3 ∧
    (((ps_ord tx le p).2 = (46, 0, 0, 0, n) ∧ 1 ≤ n ∧ n ≤ 99) ∨ ((ps_ord tx le p).2 = (116, b, 0, 0, n) ∧ n ≤ 90) ∨ ((ps_ord tx le p).2 = (112, b, c, k, n) ∧ 1 ≤ n ∧ n ≤ 99) ∨ (ps_ord tx le p).2 = (106, b, 0, 0, 0) ∨ (ps_ord tx le p).2 = (101, b, 0, 0, 0)) := by
  unfold ps_ord at h ⊢
  by_cases c : p < le ∧ ps_isv (tx p)
  · rw [if_neg (fun q => q c)] at h ⊢
    by_cases c1 : tx p = 46
    · rw [if_pos c1] at h ⊢
      obtain ⟨k1, k2, k3, k4, k5, k6⟩ := ps_num_ok (by decide) h
      exact ⟨by simpa using k5, k6, 0, 0, 0, _, by omega, by omega, by omega, Or.inl ⟨rfl, k3, k4⟩⟩
    · rw [if_neg c1] at h ⊢
      by_cases c2 : tx p = 116
      · rw [if_pos c2] at h ⊢
        obtain ⟨k1, k2, k3, k4, k5, k6⟩ := ps_num_ok (by decide) h
        obtain ⟨a1, a2, a3, a4, a5⟩ := ps_t_ok k1
        obtain ⟨b1, b2, b3, b4, b5⟩ := ps_t_ok a1
        dsimp only at *
        have e : (ps_t tx le 61 61 (ps_t tx le 48 52 (true, p + 1))).2 = p + 3 := by omega
        rw [e] at k4
        exact ⟨by omega, k6, tx (p + 1) - 48, 0, 0, _, by omega, by omega, by omega, Or.inr (Or.inl ⟨rfl, k4⟩)⟩
      · rw [if_neg c2] at h ⊢
        by_cases c3 : tx p = 112
        · rw [if_pos c3] at h ⊢
          obtain ⟨k1, k2, k3, k4, k5, k6⟩ := ps_num_ok (by decide) h
          obtain ⟨a1, a2, a3, a4, a5⟩ := ps_t_ok k1
          obtain ⟨b1, b2, b3, b4, b5⟩ := ps_t_ok a1
          obtain ⟨d1, d2, d3, d4, d5⟩ := ps_t_ok b1
          obtain ⟨e1, e2, e3, e4, e5⟩ := ps_t_ok d1
          dsimp only at *
          have f1 : (ps_t tx le 48 52 (true, p + 1)).2 = p + 2 := by omega
          rw [f1] at d3 d4 d5
          have f2 : (ps_t tx le 48 55 (ps_t tx le 48 52 (true, p + 1))).2 = p + 3 := by omega
          rw [f2] at b3 b4 b5
          have f3 : (ps_t tx le 42 42 (ps_t tx le 48 51 (ps_t tx le 48 55 (ps_t tx le 48 52 (true, p + 1))))).2 = p + 5 := by omega
          rw [f3] at k3 k4
          exact ⟨by omega, k6, tx (p + 1) - 48, tx (p + 2) - 48, tx (p + 3) - 48, _, by omega, by omega, by omega, Or.inr (Or.inr (Or.inl ⟨rfl, k3, k4⟩))⟩
        · rw [if_neg c3] at h ⊢
          obtain ⟨e1, e2, e3, e4, e5⟩ := ps_t_ok h
          dsimp only at *
          refine ⟨by omega, by omega, tx (p + 1) - 48, 0, 0, 0, by omega, by omega, by omega, ?_⟩
          rcases c.2 with q | q | q | q | q
          · exact absurd q c2
          · exact absurd q c3
          · rw [q]; exact Or.inr (Or.inr (Or.inr (Or.inl rfl)))
          · rw [q]; exact Or.inr (Or.inr (Or.inr (Or.inr rfl)))
          · exact absurd q c1
  · rw [if_pos c] at h; cases h
/-- what the reader changes in the model -/
def tb_MP (h : tb_heap) (m : Nat) (s : Nat → Nat) (kn : Int32) (g : sp_G) (r : Bool × Nat) (sp : Int32) (as ah cm od : Nat → Int32) (bf : Nat → Nat) : Prop := tb_MG h m s kn g (nI r.2) (nI (ps_w r.1)) sp as ah cm od bf
section M10
variable {E : tb_env} {d : Nat} {h : tb_heap} {nx : Nat} {Q : Option Value → tb_heap → Nat → Prop} {m : Nat} {s : Nat → Nat} {kn : Int32} {g : sp_G} {sp : Int32} {as ah cm od : Nat → Int32} {bf : Nat → Nat}
theorem m_takes {lo hi : Nat} {r : Bool × Nat} (hM : tb_MP h m s kn g r sp as ah cm od bf) (hT : ∀ j, g.2.2.1 j < 65536) (h60 : g.2.2.2.1 ≤ 60) (hr : r.2 ≤ 60) (hlo : 1 ≤ lo) (hhi : hi < 1000) (hl2 : lo < 1000) (hd : 1 ≤ d) (hQ : ∀ h' v, tb_MP h' m s kn g (ps_t g.2.2.1 g.2.2.2.1 lo hi r) sp as ah cm od bf → (∀ q, q ≠ m → h' q = h q) → ((ps_t g.2.2.1 g.2.2.2.1 lo hi r).1 = true → v = nI (g.2.2.1 r.2 - lo)) → Q (some (.int v)) h' nx) :
    tb_wp E d 130 0 [.ref m, .int (nI lo), .int (nI hi), .long 0] [] h nx 0 0 Q := by
  obtain ⟨ok, p⟩ := r
  have g0 := hM.1.g
  dsimp only at hr hQ
  have hTp := hT p
  have tx : ∀ {j : Nat} (hj : j < 60) {K : Int32 → Prop}, tb_wF (tb_ld E h 0 (m + 6) (nI j)) K = K (nI (g.2.2.1 j)) := fun hj => hM.2.2.2.2.2.2.1.ld hj (by decide)
  have bad : ∀ c : Int32, ¬ (ok = true ∧ p < g.2.2.2.1 ∧ lo ≤ g.2.2.1 p ∧ g.2.2.1 p ≤ hi) → tb_wp E d 130 47 [.ref m, .int (nI lo), .int (nI hi), .int c] [.int (nI 1), .ref m] h nx 0 0 Q := by
    intro c hc
    have e : ps_t g.2.2.1 g.2.2.2.1 lo hi (ok, p) = (false, p) := by unfold ps_t; rw [if_neg hc]
    rw [e] at hQ
    simp (disch := first | assumption | omega | exact tb_sm0 | exact tb_sm1 _ | exact tb_sm2 _ _ | exact tb_sm3 _ _ _ | exact tb_sm4 _ _ _ _ | exact Or.inl rfl | exact Or.inr rfl | fail) only [r130_0, r130_1, r130_4, r130_5, r130_8, r130_11, r130_12, r130_15, r130_16, r130_19, r130_20, r130_23, r130_24, r130_25, r130_26, r130_27, r130_30, r130_33, r130_34, r130_35, r130_36, r130_39, r130_42, r130_43, r130_46, r130_47, r130_50, r130_51i, r130_51, r130_52, r130_55, r130_56, r130_59, r130_62, r130_63, r130_66, r130_67, r130_68, r130_71, r130_72, r130_73, r130_74]
    refine tb_pf_ok hM.1 (by simp) (fun h2 h21 h22 => ?_)
    have o2 : tb_Mo h2 m (nI g.2.1) kn (nI g.2.2.2.1) g.2.2.2.2.1 g.2.2.2.2.2 (nI p) (nI 1) sp := h21
    have g2 := o2.g
    simp (disch := first | assumption | omega | exact tb_sm0 | exact tb_sm1 _ | exact tb_sm2 _ _ | exact tb_sm3 _ _ _ | exact tb_sm4 _ _ _ _ | exact Or.inl rfl | exact Or.inr rfl | fail) only [r130_0, r130_1, r130_4, r130_5, r130_8, r130_11, r130_12, r130_15, r130_16, r130_19, r130_20, r130_23, r130_24, r130_25, r130_26, r130_27, r130_30, r130_33, r130_34, r130_35, r130_36, r130_39, r130_42, r130_43, r130_46, r130_47, r130_50, r130_51i, r130_51, r130_52, r130_55, r130_56, r130_59, r130_62, r130_63, r130_66, r130_67, r130_68, r130_71, r130_72, r130_73, r130_74, g2, tb_vl_some, tb_vl_none, tb_wF_some, nI_add, pk_mul, e_sub, e_div, tb_nmod, e_dec, e_le, e_lt, e_eq, e_eq0, e_lt0, e_0le, e_0lt, e_le0, if_true, if_false, not_true_eq_false, not_false_eq_true, ite_true, ite_false, Nat.reduceAdd, Nat.reduceMul, Nat.reduceLeDiff, Nat.reduceLT, Nat.reduceEqDiff, Nat.reduceSub, ↓reduceIte, Nat.reduceDiv, Nat.reduceMod, Nat.add_zero]
    refine tb_pf_ok o2 (by simp) (fun h3 h31 h32 => ?_)
    try simp (disch := first | assumption | omega | exact tb_sm0 | exact tb_sm1 _ | exact tb_sm2 _ _ | exact tb_sm3 _ _ _ | exact tb_sm4 _ _ _ _ | exact Or.inl rfl | exact Or.inr rfl | fail) only [r130_0, r130_1, r130_4, r130_5, r130_8, r130_11, r130_12, r130_15, r130_16, r130_19, r130_20, r130_23, r130_24, r130_25, r130_26, r130_27, r130_30, r130_33, r130_34, r130_35, r130_36, r130_39, r130_42, r130_43, r130_46, r130_47, r130_50, r130_51i, r130_51, r130_52, r130_55, r130_56, r130_59, r130_62, r130_63, r130_66, r130_67, r130_68, r130_71, r130_72, r130_73, r130_74]
    refine hQ h3 _ ?_ (fun q hq => by rw [h32 q hq, h22 q hq]) (fun q => by cases q)
    exact hM.upO (g' := g) (po' := nI p) (wr' := nI 1) (sp' := sp) (kn' := kn) h31 ⟨rfl, rfl⟩ (fun q hq => by rw [h32 q hq, h22 q hq])
  cases ok with
  | false =>
    have hb0 : ∀ c, tb_wp E d 130 47 [.ref m, .int (nI lo), .int (nI hi), .int c] [.int (nI 1), .ref m] h nx 0 0 Q := fun c => bad c (fun q => by cases q.1)
    have e : ps_w (false, p).1 = 1 := rfl
    by_cases c1 : p < g.2.2.2.1
    · have hpl : ¬ g.2.2.2.1 ≤ p := by omega
      simp (disch := first | assumption | omega | exact tb_sm0 | exact tb_sm1 _ | exact tb_sm2 _ _ | exact tb_sm3 _ _ _ | exact tb_sm4 _ _ _ _ | exact Or.inl rfl | exact Or.inr rfl | fail) only [r130_0, r130_1, r130_4, r130_5, r130_8, r130_11, r130_12, r130_15, r130_16, r130_19, r130_20, r130_23, r130_24, r130_25, r130_26, r130_27, r130_30, r130_33, r130_34, r130_35, r130_36, r130_39, r130_42, r130_43, r130_46, r130_50, r130_51i, r130_51, r130_52, r130_55, r130_56, r130_59, r130_62, r130_63, r130_66, r130_67, r130_68, r130_71, r130_72, r130_73, r130_74, g0, tx, e, hpl, tb_vl_some, tb_vl_none, tb_wF_some, nI_add, pk_mul, e_sub, e_div, tb_nmod, e_dec, e_le, e_lt, e_eq, e_eq0, e_lt0, e_0le, e_0lt, e_le0, if_true, if_false, not_true_eq_false, not_false_eq_true, ite_true, ite_false, Nat.reduceAdd, Nat.reduceMul, Nat.reduceLeDiff, Nat.reduceLT, Nat.reduceEqDiff, Nat.reduceSub, ↓reduceIte, Nat.reduceDiv, Nat.reduceMod]
      exact hb0 _
    · have hpl : g.2.2.2.1 ≤ p := by omega
      simp (disch := first | assumption | omega | exact tb_sm0 | exact tb_sm1 _ | exact tb_sm2 _ _ | exact tb_sm3 _ _ _ | exact tb_sm4 _ _ _ _ | exact Or.inl rfl | exact Or.inr rfl | fail) only [r130_0, r130_1, r130_4, r130_5, r130_8, r130_11, r130_12, r130_15, r130_16, r130_19, r130_20, r130_23, r130_24, r130_25, r130_26, r130_27, r130_30, r130_33, r130_34, r130_35, r130_36, r130_39, r130_42, r130_43, r130_46, r130_50, r130_51i, r130_51, r130_52, r130_55, r130_56, r130_59, r130_62, r130_63, r130_66, r130_67, r130_68, r130_71, r130_72, r130_73, r130_74, g0, tx, e, hpl, tb_vl_some, tb_vl_none, tb_wF_some, nI_add, pk_mul, e_sub, e_div, tb_nmod, e_dec, e_le, e_lt, e_eq, e_eq0, e_lt0, e_0le, e_0lt, e_le0, if_true, if_false, not_true_eq_false, not_false_eq_true, ite_true, ite_false, Nat.reduceAdd, Nat.reduceMul, Nat.reduceLeDiff, Nat.reduceLT, Nat.reduceEqDiff, Nat.reduceSub, ↓reduceIte, Nat.reduceDiv, Nat.reduceMod]
      exact hb0 _
  | true =>
    have e : ps_w (true, p).1 = 0 := rfl
    by_cases c1 : p < g.2.2.2.1
    · have hpl : ¬ g.2.2.2.1 ≤ p := by omega
      have hp60 : p < 60 := by omega
      by_cases c2 : lo ≤ g.2.2.1 p ∧ g.2.2.1 p ≤ hi
      · have e : ps_t g.2.2.1 g.2.2.2.1 lo hi (true, p) = (true, p + 1) := by unfold ps_t; rw [if_pos ⟨rfl, c1, c2.1, c2.2⟩]
        have e0 : ps_w (true, p).1 = 0 := rfl
        rw [e] at hQ
        have c21 := c2.1
        simp (disch := first | assumption | omega | exact tb_sm0 | exact tb_sm1 _ | exact tb_sm2 _ _ | exact tb_sm3 _ _ _ | exact tb_sm4 _ _ _ _ | exact Or.inl rfl | exact Or.inr rfl | fail) only [r130_0, r130_1, r130_4, r130_5, r130_8, r130_11, r130_12, r130_15, r130_16, r130_19, r130_20, r130_23, r130_24, r130_25, r130_26, r130_27, r130_30, r130_33, r130_34, r130_35, r130_36, r130_39, r130_42, r130_43, r130_46, r130_47, r130_50, r130_51i, r130_51, r130_52, r130_55, r130_56, r130_59, r130_62, r130_63, r130_66, r130_67, r130_68, r130_71, r130_72, r130_73, r130_74, g0, tx hp60, e0, hpl, m_in_n c2.1 c2.2 (show hi < 2 ^ 31 by omega), tb_vl_some, tb_vl_none, tb_wF_some, nI_add, pk_mul, e_sub, e_div, tb_nmod, e_dec, e_le, e_lt, e_eq, e_eq0, e_lt0, e_0le, e_0lt, e_le0, if_true, if_false, not_true_eq_false, not_false_eq_true, ite_true, ite_false, Nat.reduceAdd, Nat.reduceMul, Nat.reduceLeDiff, Nat.reduceLT, Nat.reduceEqDiff, Nat.reduceSub, ↓reduceIte, Nat.reduceDiv, Nat.reduceMod]
        refine tb_pf_ok hM.1 (by simp) (fun h2 h21 h22 => ?_)
        have o2 : tb_Mo h2 m (nI g.2.1) kn (nI g.2.2.2.1) g.2.2.2.2.1 g.2.2.2.2.2 (nI p) (nI 0) sp := h21
        have g2 := o2.g
        simp (disch := first | assumption | omega | exact tb_sm0 | exact tb_sm1 _ | exact tb_sm2 _ _ | exact tb_sm3 _ _ _ | exact tb_sm4 _ _ _ _ | exact Or.inl rfl | exact Or.inr rfl | fail) only [r130_0, r130_1, r130_4, r130_5, r130_8, r130_11, r130_12, r130_15, r130_16, r130_19, r130_20, r130_23, r130_24, r130_25, r130_26, r130_27, r130_30, r130_33, r130_34, r130_35, r130_36, r130_39, r130_42, r130_43, r130_46, r130_47, r130_50, r130_51i, r130_51, r130_52, r130_55, r130_56, r130_59, r130_62, r130_63, r130_66, r130_67, r130_68, r130_71, r130_72, r130_73, r130_74, g2, tb_vl_some, tb_vl_none, tb_wF_some, nI_add, pk_mul, e_sub, e_div, tb_nmod, e_dec, e_le, e_lt, e_eq, e_eq0, e_lt0, e_0le, e_0lt, e_le0, if_true, if_false, not_true_eq_false, not_false_eq_true, ite_true, ite_false, Nat.reduceAdd, Nat.reduceMul, Nat.reduceLeDiff, Nat.reduceLT, Nat.reduceEqDiff, Nat.reduceSub, ↓reduceIte, Nat.reduceDiv, Nat.reduceMod]
        refine tb_pf_ok o2 (by simp) (fun h3 h31 h32 => ?_)
        try simp (disch := first | assumption | omega | exact tb_sm0 | exact tb_sm1 _ | exact tb_sm2 _ _ | exact tb_sm3 _ _ _ | exact tb_sm4 _ _ _ _ | exact Or.inl rfl | exact Or.inr rfl | fail) only [r130_0, r130_1, r130_4, r130_5, r130_8, r130_11, r130_12, r130_15, r130_16, r130_19, r130_20, r130_23, r130_24, r130_25, r130_26, r130_27, r130_30, r130_33, r130_34, r130_35, r130_36, r130_39, r130_42, r130_43, r130_46, r130_47, r130_50, r130_51i, r130_51, r130_52, r130_55, r130_56, r130_59, r130_62, r130_63, r130_66, r130_67, r130_68, r130_71, r130_72, r130_73, r130_74, nI_add, pk_mul, e_sub, e_div, tb_nmod, e_dec, e_le, e_lt, e_eq, e_eq0, e_lt0, e_0le, e_0lt, e_le0, if_true, if_false, not_true_eq_false, not_false_eq_true, ite_true, ite_false, Nat.reduceAdd, Nat.reduceMul, Nat.reduceLeDiff, Nat.reduceLT, Nat.reduceEqDiff, Nat.reduceSub, ↓reduceIte, Nat.reduceDiv, Nat.reduceMod]
        refine hQ h3 _ ?_ (fun q hq => by rw [h32 q hq, h22 q hq]) (fun _ => rfl)
        exact hM.upO (g' := g) (po' := nI (p + 1)) (wr' := nI 0) (sp' := sp) (kn' := kn) h31 ⟨rfl, rfl⟩ (fun q hq => by rw [h32 q hq, h22 q hq])
      · have hb := bad (nI (g.2.2.1 p)) (fun q => c2 ⟨q.2.2.1, q.2.2.2⟩)
        have hn : nI (g.2.2.1 p) < nI lo ∨ nI hi < nI (g.2.2.1 p) := by
          rw [nI_ltI (by omega) (by omega), nI_ltI (by omega) (by omega)]; omega
        simp (disch := first | assumption | omega | exact tb_sm0 | exact tb_sm1 _ | exact tb_sm2 _ _ | exact tb_sm3 _ _ _ | exact tb_sm4 _ _ _ _ | exact Or.inl rfl | exact Or.inr rfl | fail) only [r130_0, r130_1, r130_4, r130_5, r130_8, r130_11, r130_12, r130_15, r130_16, r130_19, r130_20, r130_23, r130_24, r130_25, r130_26, r130_27, r130_30, r130_33, r130_34, r130_35, r130_36, r130_39, r130_42, r130_43, r130_46, r130_50, r130_51i, r130_51, r130_52, r130_55, r130_56, r130_59, r130_62, r130_63, r130_66, r130_67, r130_68, r130_71, r130_72, r130_73, r130_74, g0, tx hp60, e, hpl, m_in_no hn, tb_vl_some, tb_vl_none, tb_wF_some, nI_add, pk_mul, e_sub, e_div, tb_nmod, e_dec, e_le, e_lt, e_eq, e_eq0, e_lt0, e_0le, e_0lt, e_le0, if_true, if_false, not_true_eq_false, not_false_eq_true, ite_true, ite_false, Nat.reduceAdd, Nat.reduceMul, Nat.reduceLeDiff, Nat.reduceLT, Nat.reduceEqDiff, Nat.reduceSub, ↓reduceIte, Nat.reduceDiv, Nat.reduceMod]
        exact hb
    · have hpl : g.2.2.2.1 ≤ p := by omega
      have hb := bad (nI 0) (fun q => c1 q.2.1)
      have hn : nI 0 < nI lo ∨ nI hi < nI 0 := Or.inl (by rw [nI_ltI (by decide) (by omega)]; omega)
      simp (disch := first | assumption | omega | exact tb_sm0 | exact tb_sm1 _ | exact tb_sm2 _ _ | exact tb_sm3 _ _ _ | exact tb_sm4 _ _ _ _ | exact Or.inl rfl | exact Or.inr rfl | fail) only [r130_0, r130_1, r130_4, r130_5, r130_8, r130_11, r130_12, r130_15, r130_16, r130_19, r130_20, r130_23, r130_24, r130_25, r130_26, r130_27, r130_30, r130_33, r130_34, r130_35, r130_36, r130_39, r130_42, r130_43, r130_46, r130_50, r130_51i, r130_51, r130_52, r130_55, r130_56, r130_59, r130_62, r130_63, r130_66, r130_67, r130_68, r130_71, r130_72, r130_73, r130_74, g0, tx, e, hpl, m_in_no hn, tb_vl_some, tb_vl_none, tb_wF_some, nI_add, pk_mul, e_sub, e_div, tb_nmod, e_dec, e_le, e_lt, e_eq, e_eq0, e_lt0, e_0le, e_0lt, e_le0, if_true, if_false, not_true_eq_false, not_false_eq_true, ite_true, ite_false, Nat.reduceAdd, Nat.reduceMul, Nat.reduceLeDiff, Nat.reduceLT, Nat.reduceEqDiff, Nat.reduceSub, ↓reduceIte, Nat.reduceDiv, Nat.reduceMod]
      exact hb
theorem m_isNext_f {lo hi p : Nat} (hM : tb_MP h m s kn g (false, p) sp as ah cm od bf) : tb_wp E d 129 0 [.ref m, .int (nI lo), .int (nI hi)] [] h nx 0 0 Q = Q (some (.int (nI 0))) h nx := by
  have g0 := hM.1.g
  have e : ps_w (false, p).1 = 1 := rfl
  simp (disch := first | assumption | omega | exact tb_sm0 | exact tb_sm1 _ | exact tb_sm2 _ _ | exact tb_sm3 _ _ _ | exact tb_sm4 _ _ _ _ | exact Or.inl rfl | exact Or.inr rfl | fail) only [r129_0, r129_1, r129_4, r129_7, r129_8, r129_11, r129_12, r129_15, r129_18, r129_19, r129_22, r129_23, r129_26, r129_27, r129_28, r129_29, r129_32, r129_35, r129_36, r129_39, r129_40, g0, e, tb_vl_some, tb_vl_none, tb_wF_some, nI_add, pk_mul, e_sub, e_div, tb_nmod, e_dec, e_le, e_lt, e_eq, e_eq0, e_lt0, e_0le, e_0lt, e_le0, if_true, if_false, not_true_eq_false, not_false_eq_true, ite_true, ite_false, Nat.reduceAdd, Nat.reduceMul, Nat.reduceLeDiff, Nat.reduceLT, Nat.reduceEqDiff, Nat.reduceSub, ↓reduceIte, Nat.reduceDiv, Nat.reduceMod]
theorem m_isNext {lo hi p : Nat} (hM : tb_MP h m s kn g (true, p) sp as ah cm od bf) (hT : ∀ j, g.2.2.1 j < 65536) (h60 : g.2.2.2.1 ≤ 60) (hr : p ≤ 60) (hhi : hi < 1000) (hlo : lo < 1000) (hd : 1 ≤ d) : tb_wp E d 129 0 [.ref m, .int (nI lo), .int (nI hi)] [] h nx 0 0 Q = Q (some (.int (nI (if p < g.2.2.2.1 ∧ lo ≤ g.2.2.1 p ∧ g.2.2.1 p ≤ hi then 1 else 0)))) h nx := by
  have g0 := hM.1.g
  have e : ps_w (true, p).1 = 0 := rfl
  have hTp := hT p
  have tx : ∀ {j : Nat} (hj : j < 60) {K : Int32 → Prop}, tb_wF (tb_ld E h 0 (m + 6) (nI j)) K = K (nI (g.2.2.1 j)) := fun hj => hM.2.2.2.2.2.2.1.ld hj (by decide)
  by_cases c1 : p < g.2.2.2.1
  · have hpl : ¬ g.2.2.2.1 ≤ p := by omega
    have hp60 : p < 60 := by omega
    by_cases c2 : lo ≤ g.2.2.1 p ∧ g.2.2.1 p ≤ hi
    · rw [if_pos ⟨c1, c2⟩]
      simp (disch := first | assumption | omega | exact tb_sm0 | exact tb_sm1 _ | exact tb_sm2 _ _ | exact tb_sm3 _ _ _ | exact tb_sm4 _ _ _ _ | exact Or.inl rfl | exact Or.inr rfl | fail) only [r129_0, r129_1, r129_4, r129_7, r129_8, r129_11, r129_12, r129_15, r129_18, r129_19, r129_22, r129_23, r129_26, r129_27, r129_28, r129_29, r129_32, r129_35, r129_36, r129_39, r129_40, g0, e, tx hp60, hpl, m_in_n c2.1 c2.2 (show hi < 2 ^ 31 by omega), tb_vl_some, tb_vl_none, tb_wF_some, nI_add, pk_mul, e_sub, e_div, tb_nmod, e_dec, e_le, e_lt, e_eq, e_eq0, e_lt0, e_0le, e_0lt, e_le0, if_true, if_false, not_true_eq_false, not_false_eq_true, ite_true, ite_false, Nat.reduceAdd, Nat.reduceMul, Nat.reduceLeDiff, Nat.reduceLT, Nat.reduceEqDiff, Nat.reduceSub, ↓reduceIte, Nat.reduceDiv, Nat.reduceMod]
    · rw [if_neg (fun q => c2 q.2)]
      have hn : nI (g.2.2.1 p) < nI lo ∨ nI hi < nI (g.2.2.1 p) := by
        rw [nI_ltI (by omega) (by omega), nI_ltI (by omega) (by omega)]; omega
      simp (disch := first | assumption | omega | exact tb_sm0 | exact tb_sm1 _ | exact tb_sm2 _ _ | exact tb_sm3 _ _ _ | exact tb_sm4 _ _ _ _ | exact Or.inl rfl | exact Or.inr rfl | fail) only [r129_0, r129_1, r129_4, r129_7, r129_8, r129_11, r129_12, r129_15, r129_18, r129_19, r129_22, r129_23, r129_26, r129_27, r129_28, r129_29, r129_32, r129_35, r129_36, r129_39, r129_40, g0, e, tx hp60, hpl, m_in_no hn, tb_vl_some, tb_vl_none, tb_wF_some, nI_add, pk_mul, e_sub, e_div, tb_nmod, e_dec, e_le, e_lt, e_eq, e_eq0, e_lt0, e_0le, e_0lt, e_le0, if_true, if_false, not_true_eq_false, not_false_eq_true, ite_true, ite_false, Nat.reduceAdd, Nat.reduceMul, Nat.reduceLeDiff, Nat.reduceLT, Nat.reduceEqDiff, Nat.reduceSub, ↓reduceIte, Nat.reduceDiv, Nat.reduceMod]
  · rw [if_neg (fun q => c1 q.1)]
    have hpl : g.2.2.2.1 ≤ p := by omega
    simp (disch := first | assumption | omega | exact tb_sm0 | exact tb_sm1 _ | exact tb_sm2 _ _ | exact tb_sm3 _ _ _ | exact tb_sm4 _ _ _ _ | exact Or.inl rfl | exact Or.inr rfl | fail) only [r129_0, r129_1, r129_4, r129_7, r129_8, r129_11, r129_12, r129_15, r129_18, r129_19, r129_22, r129_23, r129_26, r129_27, r129_28, r129_29, r129_32, r129_35, r129_36, r129_39, r129_40, g0, e, hpl, tb_vl_some, tb_vl_none, tb_wF_some, nI_add, pk_mul, e_sub, e_div, tb_nmod, e_dec, e_le, e_lt, e_eq, e_eq0, e_lt0, e_0le, e_0lt, e_le0, if_true, if_false, not_true_eq_false, not_false_eq_true, ite_true, ite_false, Nat.reduceAdd, Nat.reduceMul, Nat.reduceLeDiff, Nat.reduceLT, Nat.reduceEqDiff, Nat.reduceSub, ↓reduceIte, Nat.reduceDiv, Nat.reduceMod]
end M10
