/-! THE CLASS'S ANSWERS, as equations -/
theorem wp_eq {E : tb_env} {d m pc : Nat} {ls st : List Value} {h0 : tb_heap} {nx0 bc bs : Nat} {v : Option Value} {h : tb_heap} {nx : Nat} (H : ∀ Q : Option Value → tb_heap → Nat → Prop, Q v h nx → tb_wp E d m pc ls st h0 nx0 bc bs Q) {Q : Option Value → tb_heap → Nat → Prop} : tb_wp E d m pc ls st h0 nx0 bc bs Q = Q v h nx := by
  apply propext
  constructor
  · rintro ⟨f, z, h1, h2⟩
    obtain ⟨g, w, g1, g2⟩ := H (fun v' h' n' => v' = v ∧ h' = h ∧ n' = nx) ⟨rfl, rfl, rfl⟩
    have e := (tb_mono (Nat.le_max_left f g) h1).symm.trans (tb_mono (Nat.le_max_right f g) g1)
    have e := Option.some.inj e
    subst e
    obtain ⟨a, b, c⟩ := g2
    rw [a, b, c] at h2
    exact h2
  · exact H Q
section QE
variable {E : tb_env} {d : Nat} {h : tb_heap} {nx : Nat} {Q : Option Value → tb_heap → Nat → Prop} {x kn : Nat} {s : Nat → Nat} {hs : Nat → Nat → Nat} {g : sp_G}
theorem q_grains {b c k : Nat} (hC : tb_CF h x s hs kn g) (hd : 3 ≤ d) (hb : b < 5) (hc : c < 8) (hk : k < 4) : tb_wp E d 53 0 [.ref x, .int (nI b), .int (nI c), .int (nI k)] [] h nx 0 0 Q = Q (some (.int (nI (s (48 + 32 * b + 4 * c + k))))) h nx := by
  refine wp_eq (fun Q hQ => k_grains hC hd ?_)
  unfold an_grains
  rw [if_neg (tb_place_ok (by omega) (by omega) (by omega)), sp_n_nI (by omega), sp_n_nI (by omega), sp_n_nI (by omega)]
  exact hQ
theorem q_needs {b c k : Nat} (hC : tb_CF h x s hs kn g) (hI : sp_I s) (hd : 3 ≤ d) (hb : b < 5) (hc : c < 8) (hk : k < 4) : tb_wp E d 57 0 [.ref x, .int (nI b), .int (nI c), .int (nI k), .long 0] [] h nx 0 0 Q = Q (some (.int (if s (48 + 32 * b + 4 * c + k) = 0 then -5 else nI (sp_need s b c k)))) h nx := by
  refine wp_eq (fun Q hQ => k_needs hC hI hd ?_)
  unfold an_needs
  rw [if_neg (tb_place_ok (by omega) (by omega) (by omega)), sp_n_nI (by omega), sp_n_nI (by omega), sp_n_nI (by omega)]
  exact hQ
theorem q_reason {b c k : Nat} (hC : tb_CF h x s hs kn g) (hI : sp_I s) (hd : 3 ≤ d) (hb : b < 5) (hc : c < 8) (hk : k < 4) : tb_wp E d 58 0 [.ref x, .int (nI b), .int (nI c), .int (nI k)] [] h nx 0 0 Q = Q (some (.int (nI (sp_why s b c k)))) h nx := by
  refine wp_eq (fun Q hQ => k_reason hC hI hd ?_)
  unfold an_reason
  rw [if_neg (tb_place_ok (by omega) (by omega) (by omega)), sp_n_nI (by omega), sp_n_nI (by omega), sp_n_nI (by omega)]
  exact hQ
theorem q_pan {b k : Nat} (hC : tb_CF h x s hs kn g) (hd : 2 ≤ d) (hb : b < 5) (hk : k < 4) : tb_wp E d 55 0 [.ref x, .int (nI b), .int (nI k)] [] h nx 0 0 Q = Q (some (.int (nI (s (28 + 4 * b + k))))) h nx := by
  refine wp_eq (fun Q hQ => k_pan hC hd ?_)
  unfold an_pan
  rw [if_neg (fun q => q.elim (e_ok (by omega) (by decide)) (e_ok (by omega) (by decide))), sp_n_nI (by omega), sp_n_nI (by omega)]
  exact hQ
theorem q_kind {k w : Nat} (hC : tb_CF h x s hs kn g) (hd : 2 ≤ d) (hk : k < 4) (hw : w < 4) : tb_wp E d 56 0 [.ref x, .int (nI k), .int (nI w)] [] h nx 0 0 Q = Q (some (.int (an_kind' s k w))) h nx := by
  refine wp_eq (fun Q hQ => k_kind hC hd ?_)
  unfold an_kind
  rw [if_neg (e_ok (by omega) (by decide)), if_neg (e_ok (by omega) (by decide)), sp_n_nI (by omega), sp_n_nI (by omega)]
  exact hQ
theorem q_board {b w : Nat} (hC : tb_CF h x s hs kn g) (hI : sp_I s) (hd : 4 ≤ d) (hb : b < 5) (hw : w < 8) : tb_wp E d 54 0 [.ref x, .int (nI b), .int (nI w), .long 0] [] h nx 0 0 Q = Q (some (.int (an_board' s b w))) h nx := by
  refine wp_eq (fun Q hQ => k_board hC hI hd ?_)
  unfold an_board
  rw [if_neg (e_ok (by omega) (by decide)), if_neg (e_ok (by omega) (by decide)), sp_n_nI (by omega), sp_n_nI (by omega)]
  exact hQ
theorem q_count {w : Nat} (hC : tb_CF h x s hs kn g) (hI : sp_I s) (hd : 5 ≤ d) (hw : w < 12) : tb_wp E d 64 0 [.ref x, .int (nI w)] [] h nx 0 0 Q = Q (some (.int (an_count' s kn g.2.2.2.1 w))) h nx := by
  refine wp_eq (fun Q hQ => k_count hC hI hd ?_)
  unfold an_count
  rw [if_neg (e_ok (by omega) (by decide)), sp_n_nI (by omega)]
  exact hQ
theorem q_least {b : Nat} (hC : tb_CF h x s hs kn g) (hI : sp_I s) (hd : 4 ≤ d) (hb : b < 5) : tb_wp E d 59 0 [.ref x, .int (nI b), .long 0] [] h nx 0 0 Q = Q (some (.int (sp_l5 (sp_lst s b 32)))) h nx := by
  refine wp_eq (fun Q hQ => k_leastAngle hC hI hd ?_)
  unfold an_least
  rw [if_neg (e_ok (by omega) (by decide)), sp_n_nI (by omega)]
  exact hQ
theorem q_weighs {k a : Nat} {most : Int32} (hC : tb_CF h x s hs kn g) (hI : sp_I s) (hd : 2 ≤ d) (hk : k < 4) (ha : a ≤ 90) : tb_wp E d 63 0 [.ref x, .int (nI k), .int (nI a), .int most, .long 0, .long 0, .long 0] [] h nx 0 0 Q = Q (some (.int (sp_wg s k a most 99))) h nx := by
  refine wp_eq (fun Q hQ => k_weighs hC hI hd ?_)
  unfold an_wg
  rw [if_neg (e_ok (by omega) (by decide)), if_neg (e_ok (by omega) (by decide)), sp_n_nI (by omega), sp_n_nI (by omega)]
  exact hQ
/-! THE LAW'S SMALL METHODS -/
theorem e_andM (v : Int32) : ∃ m, m < 2 ^ 31 ∧ (v &&& nI 2147483647) = nI m := by
  have h1 : (v &&& nI 2147483647).toBitVec.toNat < 2 ^ 31 := by
    show (v.toBitVec &&& (nI 2147483647).toBitVec).toNat < 2 ^ 31
    rw [BitVec.toNat_and]
    exact Nat.lt_of_le_of_lt Nat.and_le_right (by decide)
  refine ⟨(v &&& nI 2147483647).toBitVec.toNat, h1, ?_⟩
  generalize (v &&& nI 2147483647) = u at *
  apply Int32.toInt_inj.mp
  rw [nI_toInt (by omega)]
  show u.toBitVec.toInt = (u.toBitVec.toNat : Int)
  exact BitVec.toInt_eq_toNat_of_lt (by omega)
def lw_lo (v : Int32) (n : Nat) : Nat := sp_n (v &&& nI 2147483647) % n
theorem lo_lt (v : Int32) {n : Nat} (hn : 0 < n) : lw_lo v n < n := Nat.mod_lt _ hn
theorem l_low {v : Int32} {n : Nat} (h0 : 0 < n) (hn : n < 2 ^ 31) : tb_wp E d 73 0 [.int v, .int (nI n)] [] h nx 0 0 Q = Q (some (.int (nI (lw_lo v n)))) h nx := by
  obtain ⟨m, hm, em⟩ := e_andM v
  have hz : ¬ nI n = 0 := by rw [e_eq0 hn]; omega
  have er := e_remN h0 hm hn
  have el : lw_lo v n = m % n := by unfold lw_lo; rw [em, sp_n_nI hm]
  rw [el]
  simp (disch := first | assumption | omega | exact tb_sm0 | exact tb_sm1 _ | exact tb_sm2 _ _ | exact tb_sm3 _ _ _ | exact tb_sm4 _ _ _ _ | exact Or.inl rfl | exact Or.inr rfl | fail) only [r73_0, r73_1, r73_3, r73_4, r73_5, r73_6, em, er, tb_vl_some, tb_vl_none, tb_wF_some]
def lw_cell (L : Nat) (xs : Nat → Int32) (k : Nat) : Int32 := if k < L then xs k else nI (40503 * k + 977)
theorem lo_B.ra {b L : Nat} {xs : Nat → Int32} (hB : lo_B E h x b L xs) {K : Nat × (Nat → Int32) → Prop} : tb_wF (tb_ra E h 0 b) K = K (L, xs) := by
  have e : tb_ra E h 0 b = some (L, xs) := by
    unfold tb_ra
    rw [hB.2.2.1]
    dsimp only
    rw [if_pos rfl, hB.2.2.2.1]
  rw [e]
  rfl
theorem l_cell {b L k : Nat} {xs : Nat → Int32} (hB : lo_B E h x b L xs) (hk : k < 1000) : tb_wp E d 72 0 [.ref b, .int (nI k)] [] h nx 0 0 Q = Q (some (.int (lw_cell L xs k))) h nx := by
  have hL := hB.2.2.2.2
  unfold lw_cell
  by_cases c : k < L
  · have c' : ¬ L ≤ k := by omega
    have ld := fun {K : Int32 → Prop} => hB.ld c (K := K)
    rw [if_pos c]
    simp (disch := first | assumption | omega | exact tb_sm0 | exact tb_sm1 _ | exact tb_sm2 _ _ | exact tb_sm3 _ _ _ | exact tb_sm4 _ _ _ _ | exact Or.inl rfl | exact Or.inr rfl | fail) only [r72_0, r72_1, r72_2, r72_3, r72_6, r72_7, r72_8, r72_9, r72_12, r72_14, r72_15, r72_16, r72_19, r72_20, hB.ra, ld, c', tb_vl_some, tb_vl_none, tb_wF_some, nI_add, pk_mul, e_sub, e_div, tb_nmod, e_dec, e_le, e_lt, e_eq, e_eq0, e_lt0, e_0le, e_0lt, e_le0, if_true, if_false, not_true_eq_false, not_false_eq_true, ite_true, ite_false, Nat.reduceAdd, Nat.reduceMul, Nat.reduceLeDiff, Nat.reduceLT, Nat.reduceEqDiff, Nat.reduceSub, ↓reduceIte, Nat.reduceDiv, Nat.reduceMod]
  · have c' : L ≤ k := by omega
    rw [if_neg c]
    simp (disch := first | assumption | omega | exact tb_sm0 | exact tb_sm1 _ | exact tb_sm2 _ _ | exact tb_sm3 _ _ _ | exact tb_sm4 _ _ _ _ | exact Or.inl rfl | exact Or.inr rfl | fail) only [r72_0, r72_1, r72_2, r72_3, r72_6, r72_7, r72_8, r72_9, r72_12, r72_14, r72_15, r72_16, r72_19, r72_20, hB.ra, c', tb_vl_some, tb_vl_none, tb_wF_some, nI_add, pk_mul, e_sub, e_div, tb_nmod, e_dec, e_le, e_lt, e_eq, e_eq0, e_lt0, e_0le, e_0lt, e_le0, if_true, if_false, not_true_eq_false, not_false_eq_true, ite_true, ite_false, Nat.reduceAdd, Nat.reduceMul, Nat.reduceLeDiff, Nat.reduceLT, Nat.reduceEqDiff, Nat.reduceSub, ↓reduceIte, Nat.reduceDiv, Nat.reduceMod]
/-- what holds between the law's calls -/
def lw_I (h : tb_heap) (x T : Nat) (s : Nat → Nat) (hs : Nat → Nat → Nat) (kn : Nat) : Prop := tb_CF h x s hs kn sp_g0 ∧ pp_T T s ∧ ∀ i, i < kn → pp_T T (hs i)
theorem CF_kn (hC : tb_CF h x s hs kn g) : kn ≤ 4 := by
  obtain ⟨o, hst, _, hk, _⟩ := hC.2.2.2.2.1
  exact hk
theorem rc_P {P : (Nat → Nat) → Prop} {r : Int32} (hH : ∀ i, i < kn → P (hs i)) (hS : P s) : ∀ i, i < (sp_rc r hs kn s).2 → P ((sp_rc r hs kn s).1 i) := by
  unfold sp_rc
  split
  · exact hH
  · intro i hi
    unfold sp_rec at hi ⊢
    by_cases c : kn = 4
    · rw [if_pos c] at hi ⊢
      dsimp only at hi ⊢
      split
      · exact hS
      · exact hH _ (by omega)
    · rw [if_neg c] at hi ⊢
      dsimp only at hi ⊢
      split
      · exact hS
      · exact hH _ (by omega)
theorem lw_I.after {h' : tb_heap} {T : Nat} {r : Int32} {s' : Nat → Nat} (hI : lw_I h x T s hs kn) (hC : tb_CF h' x s' (sp_rc r hs kn s).1 (sp_rc r hs kn s).2 sp_g0) (hT : pp_T (T + 1) s') : lw_I h' x (T + 1) s' (sp_rc r hs kn s).1 (sp_rc r hs kn s).2 :=
  ⟨hC, hT, rc_P (fun i hi => (hI.2.2 i hi).le (by omega)) (hI.2.1.le (by omega))⟩
theorem rc_kn {r : Int32} {kind : Nat} (h13 : kind ≠ 13) : nI (sp_rc r hs kn s).2 = if r < 0 then nI kn else if kind = 13 then nI kn - nI 1 else if kn = 4 then nI 4 else nI (kn + 1) := by
  unfold sp_rc
  split
  · rfl
  · try rw [if_neg h13]
    unfold sp_rec
    by_cases c : kn = 4
    · rw [if_pos c, if_pos c]
    · rw [if_neg c, if_neg c]
theorem l_act {T kind : Nat} {a c : Int32} (hI : lw_I h x T s hs kn) (hL : tb_SX E h x) (hk : kind < 14) (hd : 6 ≤ d) (hQ : ∀ r h' s' hs' kn', lw_I h' x (T + 1) s' hs' kn' → tb_out h h' x (x + 198) → (nI kn' = if r < 0 then nI kn else if kind = 13 then nI kn - nI 1 else if kn = 4 then nI 4 else nI (kn + 1)) → Q (some (.int r)) h' nx) :
    tb_wp E d 74 0 [.ref x, .int (nI kind), .int a, .int c, .long 0] [] h nx 0 0 Q := by
  have oX := hI.1.1.O
  have hW := hI.2.1.1
  have low : ∀ {v : Int32} {n : Nat} (h0 : 0 < n) (hn : n < 2 ^ 31) {Q' : Option Value → tb_heap → Nat → Prop}, tb_wp E (d - 1) 73 0 [.int v, .int (nI n)] [] h nx 0 0 Q' = Q' (some (.int (nI (lw_lo v n)))) h nx := fun h0 hn => l_low h0 hn
  have l4 := lo_lt a (show 0 < 4 by decide)
  simp (disch := first | assumption | omega | exact tb_sm0 | exact tb_sm1 _ | exact tb_sm2 _ _ | exact tb_sm3 _ _ _ | exact tb_sm4 _ _ _ _ | exact Or.inl rfl | exact Or.inr rfl | fail) only [r74_0, r74_1, r74_2, r74_5, r74_7, low, tb_vl_some, tb_vl_none, tb_wF_some]
  have tilt : tb_wp E d 74 76 [.ref x, .int (nI kind), .int a, .int c, .int (nI (lw_lo a 3))] [] h nx 0 0 Q ∨ ¬ kind < 2 := by
    by_cases k2 : kind < 2
    · left
      by_cases c3 : lw_lo a 4 = 3
      · simp (disch := first | assumption | omega | exact tb_sm0 | exact tb_sm1 _ | exact tb_sm2 _ _ | exact tb_sm3 _ _ _ | exact tb_sm4 _ _ _ _ | exact Or.inl rfl | exact Or.inr rfl | fail) only [r74_76, r74_77, r74_78, r74_79, r74_82, r74_83, r74_86, r74_87, r74_90, r74_92, r74_93, r74_95, r74_98, r74_101, low, c3, tb_vl_some, tb_vl_none, tb_wF_some, nI_add, pk_mul, e_sub, e_div, tb_nmod, e_dec, e_le, e_lt, e_eq, e_eq0, e_lt0, e_0le, e_0lt, e_le0, if_true, if_false, not_true_eq_false, not_false_eq_true, ite_true, ite_false, Nat.reduceAdd, Nat.reduceMul, Nat.reduceLeDiff, Nat.reduceLT, Nat.reduceEqDiff, Nat.reduceSub, ↓reduceIte, Nat.reduceDiv, Nat.reduceMod]
        refine k_tilt hI.1 hW (by omega) (fun h2 hC2 hF2 => ?_)
        try simp (disch := first | assumption | omega | exact tb_sm0 | exact tb_sm1 _ | exact tb_sm2 _ _ | exact tb_sm3 _ _ _ | exact tb_sm4 _ _ _ _ | exact Or.inl rfl | exact Or.inr rfl | fail) only [r74_76, r74_77, r74_78, r74_79, r74_82, r74_83, r74_86, r74_87, r74_90, r74_92, r74_93, r74_95, r74_98, r74_101, tb_vl_some, tb_vl_none, tb_wF_some]
        exact hQ _ h2 _ _ _ (hI.after hC2 (T_tilt hI.2.1 _ _)) hF2 (rc_kn (by omega))
      · simp (disch := first | assumption | omega | exact tb_sm0 | exact tb_sm1 _ | exact tb_sm2 _ _ | exact tb_sm3 _ _ _ | exact tb_sm4 _ _ _ _ | exact Or.inl rfl | exact Or.inr rfl | fail) only [r74_76, r74_77, r74_78, r74_79, r74_82, r74_83, r74_86, r74_87, r74_90, r74_92, r74_93, r74_95, r74_98, r74_101, low, c3, tb_vl_some, tb_vl_none, tb_wF_some, nI_add, pk_mul, e_sub, e_div, tb_nmod, e_dec, e_le, e_lt, e_eq, e_eq0, e_lt0, e_0le, e_0lt, e_le0, if_true, if_false, not_true_eq_false, not_false_eq_true, ite_true, ite_false, Nat.reduceAdd, Nat.reduceMul, Nat.reduceLeDiff, Nat.reduceLT, Nat.reduceEqDiff, Nat.reduceSub, ↓reduceIte, Nat.reduceDiv, Nat.reduceMod]
        refine k_tilt hI.1 hW (by omega) (fun h2 hC2 hF2 => ?_)
        try simp (disch := first | assumption | omega | exact tb_sm0 | exact tb_sm1 _ | exact tb_sm2 _ _ | exact tb_sm3 _ _ _ | exact tb_sm4 _ _ _ _ | exact Or.inl rfl | exact Or.inr rfl | fail) only [r74_76, r74_77, r74_78, r74_79, r74_82, r74_83, r74_86, r74_87, r74_90, r74_92, r74_93, r74_95, r74_98, r74_101, tb_vl_some, tb_vl_none, tb_wF_some]
        exact hQ _ h2 _ _ _ (hI.after hC2 (T_tilt hI.2.1 _ _)) hF2 (rc_kn (by omega))
    · right; exact k2
  have pour : tb_wp E d 74 102 [.ref x, .int (nI kind), .int a, .int c, .int (nI (lw_lo a 3))] [] h nx 0 0 Q ∨ ¬ (2 ≤ kind ∧ kind < 6) := by
    by_cases k2 : 2 ≤ kind ∧ kind < 6
    · left
      simp (disch := first | assumption | omega | exact tb_sm0 | exact tb_sm1 _ | exact tb_sm2 _ _ | exact tb_sm3 _ _ _ | exact tb_sm4 _ _ _ _ | exact Or.inl rfl | exact Or.inr rfl | fail) only [r74_102, r74_103, r74_105, r74_106, r74_107, r74_108, r74_110, r74_113, r74_114, r74_116, r74_117, r74_118, r74_121, r74_122, r74_124, r74_127, r74_130, low, tb_vl_some, tb_vl_none, tb_wF_some]
      refine k_pour hI.1 hW (by omega) (fun h2 hC2 hF2 => ?_)
      try simp (disch := first | assumption | omega | exact tb_sm0 | exact tb_sm1 _ | exact tb_sm2 _ _ | exact tb_sm3 _ _ _ | exact tb_sm4 _ _ _ _ | exact Or.inl rfl | exact Or.inr rfl | fail) only [r74_102, r74_103, r74_105, r74_106, r74_107, r74_108, r74_110, r74_113, r74_114, r74_116, r74_117, r74_118, r74_121, r74_122, r74_124, r74_127, r74_130, tb_vl_some, tb_vl_none, tb_wF_some]
      exact hQ _ h2 _ _ _ (hI.after hC2 (T_pour hI.2.1 _ _ _ _)) hF2 (rc_kn (by omega))
    · right; exact k2
  have pass : tb_wp E d 74 177 [.ref x, .int (nI kind), .int a, .int c, .int (nI (lw_lo a 3))] [] h nx 0 0 Q ∨ ¬ (10 ≤ kind ∧ kind < 13) := by
    by_cases k2 : 10 ≤ kind ∧ kind < 13
    · left
      have l9 := lo_lt a (show 0 < 9 by decide)
      simp (disch := first | assumption | omega | exact tb_sm0 | exact tb_sm1 _ | exact tb_sm2 _ _ | exact tb_sm3 _ _ _ | exact tb_sm4 _ _ _ _ | exact Or.inl rfl | exact Or.inr rfl | fail) only [r74_177, r74_178, r74_179, r74_180, r74_182, r74_185, r74_186, r74_189, low, nI_add, tb_vl_some, tb_vl_none, tb_wF_some]
      refine k_pass hI.1 hW (by omega) (fun h2 hC2 hF2 => ?_)
      try simp (disch := first | assumption | omega | exact tb_sm0 | exact tb_sm1 _ | exact tb_sm2 _ _ | exact tb_sm3 _ _ _ | exact tb_sm4 _ _ _ _ | exact Or.inl rfl | exact Or.inr rfl | fail) only [r74_177, r74_178, r74_179, r74_180, r74_182, r74_185, r74_186, r74_189, tb_vl_some, tb_vl_none, tb_wF_some]
      exact hQ _ h2 _ _ _ (hI.after hC2 (T_pass hI.2.1 (by omega))) hF2 (rc_kn (by omega))
    · right; exact k2
  rcases (by omega : kind = 0 ∨ kind = 1 ∨ kind = 2 ∨ kind = 3 ∨ kind = 4 ∨ kind = 5 ∨ kind = 6 ∨ kind = 7 ∨ kind = 8 ∨ kind = 9 ∨ kind = 10 ∨ kind = 11 ∨ kind = 12 ∨ kind = 13) with rfl | rfl | rfl | rfl | rfl | rfl | rfl | rfl | rfl | rfl | rfl | rfl | rfl | rfl
  · rw [r74_8_0]; exact tilt.resolve_right (by decide)
  · rw [r74_8_1]; exact tilt.resolve_right (by decide)
  · rw [r74_8_2]; exact pour.resolve_right (by decide)
  · rw [r74_8_3]; exact pour.resolve_right (by decide)
  · rw [r74_8_4]; exact pour.resolve_right (by decide)
  · rw [r74_8_5]; exact pour.resolve_right (by decide)
  · rw [r74_8_6]
    simp (disch := first | assumption | omega | exact tb_sm0 | exact tb_sm1 _ | exact tb_sm2 _ _ | exact tb_sm3 _ _ _ | exact tb_sm4 _ _ _ _ | exact Or.inl rfl | exact Or.inr rfl | fail) only [r74_131, r74_132, r74_134, r74_137, tb_vl_some, tb_vl_none, tb_wF_some]
    refine k_jolt hI.1 hW (by omega) (fun h2 hC2 hF2 => ?_)
    try simp (disch := first | assumption | omega | exact tb_sm0 | exact tb_sm1 _ | exact tb_sm2 _ _ | exact tb_sm3 _ _ _ | exact tb_sm4 _ _ _ _ | exact Or.inl rfl | exact Or.inr rfl | fail) only [r74_131, r74_132, r74_134, r74_137, tb_vl_some, tb_vl_none, tb_wF_some]
    exact hQ _ h2 _ _ _ (hI.after hC2 (T_jolt hI.2.1 _)) hF2 (rc_kn (by decide))
  · rw [r74_8_7]
    simp (disch := first | assumption | omega | exact tb_sm0 | exact tb_sm1 _ | exact tb_sm2 _ _ | exact tb_sm3 _ _ _ | exact tb_sm4 _ _ _ _ | exact Or.inl rfl | exact Or.inr rfl | fail) only [r74_138, r74_139, r74_141, r74_144, tb_vl_some, tb_vl_none, tb_wF_some]
    refine k_emptyPan hI.1 hW (by omega) (fun h2 hC2 hF2 => ?_)
    try simp (disch := first | assumption | omega | exact tb_sm0 | exact tb_sm1 _ | exact tb_sm2 _ _ | exact tb_sm3 _ _ _ | exact tb_sm4 _ _ _ _ | exact Or.inl rfl | exact Or.inr rfl | fail) only [r74_138, r74_139, r74_141, r74_144, tb_vl_some, tb_vl_none, tb_wF_some]
    exact hQ _ h2 _ _ _ (hI.after hC2 (T_empty hI.2.1 _)) hF2 (rc_kn (by decide))
  · rw [r74_8_8]
    simp (disch := first | assumption | omega | exact tb_sm0 | exact tb_sm1 _ | exact tb_sm2 _ _ | exact tb_sm3 _ _ _ | exact tb_sm4 _ _ _ _ | exact Or.inl rfl | exact Or.inr rfl | fail) only [r74_145, r74_146, r74_147, r74_148, r74_151, r74_152, r74_154, r74_157, r74_160, low, tb_vl_some, tb_vl_none, tb_wF_some]
    refine k_setGrip hI.1 hW (by omega) (fun h2 hC2 hF2 => ?_)
    try simp (disch := first | assumption | omega | exact tb_sm0 | exact tb_sm1 _ | exact tb_sm2 _ _ | exact tb_sm3 _ _ _ | exact tb_sm4 _ _ _ _ | exact Or.inl rfl | exact Or.inr rfl | fail) only [r74_145, r74_146, r74_147, r74_148, r74_151, r74_152, r74_154, r74_157, r74_160, tb_vl_some, tb_vl_none, tb_wF_some]
    exact hQ _ h2 _ _ _ (hI.after hC2 (T_grip hI.2.1 _ _)) hF2 (rc_kn (by decide))
  · rw [r74_8_9]
    simp (disch := first | assumption | omega | exact tb_sm0 | exact tb_sm1 _ | exact tb_sm2 _ _ | exact tb_sm3 _ _ _ | exact tb_sm4 _ _ _ _ | exact Or.inl rfl | exact Or.inr rfl | fail) only [r74_161, r74_162, r74_163, r74_164, r74_167, r74_168, r74_170, r74_173, r74_176, low, tb_vl_some, tb_vl_none, tb_wF_some]
    refine k_set hI.1 hW hL (by omega) (fun h2 hC2 hF2 => ?_)
    try simp (disch := first | assumption | omega | exact tb_sm0 | exact tb_sm1 _ | exact tb_sm2 _ _ | exact tb_sm3 _ _ _ | exact tb_sm4 _ _ _ _ | exact Or.inl rfl | exact Or.inr rfl | fail) only [r74_161, r74_162, r74_163, r74_164, r74_167, r74_168, r74_170, r74_173, r74_176, tb_vl_some, tb_vl_none, tb_wF_some]
    exact hQ _ h2 _ _ _ (hI.after hC2 (T_set hI.2.1 _ _)) hF2 (rc_kn (by decide))
  · rw [r74_8_10]; exact pass.resolve_right (by decide)
  · rw [r74_8_11]; exact pass.resolve_right (by decide)
  · rw [r74_8_12]; exact pass.resolve_right (by decide)
  · rw [r74_8_d (x := nI 13) (Or.inr (by decide))]
    have h4 := CF_kn hI.1
    cases kn with
    | zero =>
      simp (disch := first | assumption | omega | exact tb_sm0 | exact tb_sm1 _ | exact tb_sm2 _ _ | exact tb_sm3 _ _ _ | exact tb_sm4 _ _ _ _ | exact Or.inl rfl | exact Or.inr rfl | fail) only [r74_190, r74_191, r74_194, tb_vl_some, tb_vl_none, tb_wF_some, k_undo_0 hI.1]
      exact hQ _ h _ _ _ ⟨hI.1, hI.2.1.le (by omega), fun i hi => by omega⟩ tb_out.rf (by decide)
    | succ kn =>
      simp (disch := first | assumption | omega | exact tb_sm0 | exact tb_sm1 _ | exact tb_sm2 _ _ | exact tb_sm3 _ _ _ | exact tb_sm4 _ _ _ _ | exact Or.inl rfl | exact Or.inr rfl | fail) only [r74_190, r74_191, r74_194, tb_vl_some, tb_vl_none, tb_wF_some]
      refine k_undo hI.1 (hI.2.2 kn (by omega)).1.1.2.2.2.2 (by omega) (fun h2 hC2 hF2 => ?_)
      try simp (disch := first | assumption | omega | exact tb_sm0 | exact tb_sm1 _ | exact tb_sm2 _ _ | exact tb_sm3 _ _ _ | exact tb_sm4 _ _ _ _ | exact Or.inl rfl | exact Or.inr rfl | fail) only [r74_190, r74_191, r74_194, tb_vl_some, tb_vl_none, tb_wF_some]
      exact hQ _ h2 _ _ _ ⟨hC2, (hI.2.2 kn (by omega)).le (by omega), fun i hi => (hI.2.2 i (by omega)).le (by omega)⟩ hF2 (by rw [if_neg (by rw [e_lt0 (by omega)]; exact id), if_pos rfl, e_sub (by omega)]; rfl)
theorem l_onCell {b c : Nat} (hC : tb_CF h x s hs kn g) (hb : b < 5) (hc : c < 8) (hd : 4 ≤ d) : tb_wp E d 75 0 [.ref x, .int (nI b), .int (nI c), .long 0, .long 0] [] h nx 0 0 Q = Q (some (.int (nI (sp_on s b c)))) h nx := by
  have oX := hC.1.O
  have qg := fun {k : Nat} (hk : k < 4) {Q' : Option Value → tb_heap → Nat → Prop} => q_grains (E := E) (d := d - 1) (nx := nx) (Q := Q') hC (by omega) hb hc hk
  simp (disch := first | assumption | omega | exact tb_sm0 | exact tb_sm1 _ | exact tb_sm2 _ _ | exact tb_sm3 _ _ _ | exact tb_sm4 _ _ _ _ | exact Or.inl rfl | exact Or.inr rfl | fail) only [r75_0, r75_1, r75_2, r75_3, r75_5, r75_7, r75_8, r75_11, r75_12, r75_13, r75_14, r75_15, r75_17, r75_20, r75_21, r75_22, r75_25, r75_28, r75_29, qg, tb_vl_some, tb_vl_none, tb_wF_some, nI_add, pk_mul, e_sub, e_div, tb_nmod, e_dec, e_le, e_lt, e_eq, e_eq0, e_lt0, e_0le, e_0lt, e_le0, if_true, if_false, not_true_eq_false, not_false_eq_true, ite_true, ite_false, Nat.reduceAdd, Nat.reduceMul, Nat.reduceLeDiff, Nat.reduceLT, Nat.reduceEqDiff, Nat.reduceSub, ↓reduceIte, Nat.reduceDiv, Nat.reduceMod]
  simp only [sp_on, Nat.add_zero, Nat.zero_add]
end QE
