/-! numbers -/
theorem e_le {a b : Nat} (ha : a < 2 ^ 31) (hb : b < 2 ^ 31) : (nI a ≤ nI b) = (a ≤ b) := propext (nI_leI ha hb)
theorem e_lt {a b : Nat} (ha : a < 2 ^ 31) (hb : b < 2 ^ 31) : (nI a < nI b) = (a < b) := propext (nI_ltI ha hb)
theorem e_eq {a b : Nat} (ha : a < 2 ^ 31) (hb : b < 2 ^ 31) : (nI a = nI b) = (a = b) := propext (nI_eq ha hb)
theorem e_eq0 {a : Nat} (ha : a < 2 ^ 31) : (nI a = 0) = (a = 0) := by rw [← nI_0, e_eq ha (by decide)]
theorem e_lt0 {a : Nat} (ha : a < 2 ^ 31) : (nI a < 0) = False := by rw [← nI_0, e_lt ha (by decide)]; simp
theorem e_0le {a : Nat} (ha : a < 2 ^ 31) : (0 ≤ nI a) = True := by rw [← nI_0, e_le (by decide) ha]; simp
theorem e_0lt {a : Nat} (ha : a < 2 ^ 31) : (0 < nI a) = (0 < a) := by rw [← nI_0, e_lt (by decide) ha]
theorem e_le0 {a : Nat} (ha : a < 2 ^ 31) : (nI a ≤ 0) = (a = 0) := by rw [← nI_0, e_le ha (by decide)]; simp
theorem tb_cat2 (v : Value) : v.category ≤ 2 := by rcases lv_cat v with h | h <;> omega
theorem tb_sm0 : tb_sm [] = true := by decide
theorem tb_sm1 (a : Value) : tb_sm [a] = true := by have := tb_cat2 a; simp [tb_sm]; omega
theorem tb_sm2 (a b : Value) : tb_sm [a, b] = true := by have := tb_cat2 a; have := tb_cat2 b; simp [tb_sm]; omega
theorem tb_sm3 (a b c : Value) : tb_sm [a, b, c] = true := by have := tb_cat2 a; have := tb_cat2 b; have := tb_cat2 c; simp [tb_sm]; omega
theorem tb_sm4 (a b c d : Value) : tb_sm [a, b, c, d] = true := by have := tb_cat2 a; have := tb_cat2 b; have := tb_cat2 c; have := tb_cat2 d; simp [tb_sm]; omega
theorem e_sub {a b : Nat} (h : b ≤ a) : nI a - nI b = nI (a - b) := pk_sub h
theorem e_div {a d : Nat} (h0 : 0 < d) (ha : a < 2 ^ 31) (hd : d < 2 ^ 31) : nI a / nI d = nI (a / d) := pk_div ha h0 hd
theorem e_rem {a d : Nat} (h0 : 0 < d) (ha : a < 2 ^ 31) (hd : d < 2 ^ 31) : nI a - nI (a / d) * nI d = nI (a % d) := by rw [← pk_div ha h0 hd]; exact pk_rem ha h0 hd
theorem e_dec {a : Nat} (h : 0 < a) : nI a + (-1) = nI (a - 1) := by
  obtain ⟨n, rfl⟩ : ∃ n, a = n + 1 := ⟨a - 1, by omega⟩
  rw [pk_m1]; simp
theorem e_neg {a b : Nat} (h : a < b) (hb : b < 2 ^ 30) : (nI a - nI b < 0) = True := by simp [pk_sneg hb h]
abbrev tb_bad (x : Int32) (n : Nat) : Prop := x < nI 0 ∨ nI n < x
theorem tb_gd (x : Int32) {n : Nat} (hn : n < 2 ^ 31) : tb_bad x n ∨ ∃ j, j ≤ n ∧ x = nI j := by
  by_cases h1 : x < nI 0
  · exact Or.inl (Or.inl h1)
  · by_cases h2 : nI n < x
    · exact Or.inl (Or.inr h2)
    · obtain ⟨j, hj, rfl⟩ := nI_of (x := x) (by rw [nI_0] at h1; exact h1)
      refine Or.inr ⟨j, ?_, rfl⟩
      rw [nI_ltI hn hj] at h2
      omega
theorem tb_nmod (a d : Nat) : a - a / d * d = a % d := by
  have := Nat.div_add_mod a d
  rw [Nat.mul_comm] at this
  omega
