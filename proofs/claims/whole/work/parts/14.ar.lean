/-! numbers -/
theorem e_le {a b : Nat} (ha : a < 2 ^ 31) (hb : b < 2 ^ 31) : (nI a ≤ nI b) = (a ≤ b) := propext (nI_leI ha hb)
theorem e_lt {a b : Nat} (ha : a < 2 ^ 31) (hb : b < 2 ^ 31) : (nI a < nI b) = (a < b) := propext (nI_ltI ha hb)
theorem e_eq {a b : Nat} (ha : a < 2 ^ 31) (hb : b < 2 ^ 31) : (nI a = nI b) = (a = b) := propext (nI_eq ha hb)
theorem e_eq0 {a : Nat} (ha : a < 2 ^ 31) : (nI a = 0) = (a = 0) := by rw [← nI_0, e_eq ha (by decide)]
theorem e_lt0 {a : Nat} (ha : a < 2 ^ 31) : (nI a < 0) = False := by rw [← nI_0, e_lt ha (by decide)]; simp
theorem e_0le {a : Nat} (ha : a < 2 ^ 31) : (0 ≤ nI a) = True := by rw [← nI_0, e_le (by decide) ha]; simp
theorem e_0lt {a : Nat} (ha : a < 2 ^ 31) : (0 < nI a) = (0 < a) := by rw [← nI_0, e_lt (by decide) ha]
theorem e_le0 {a : Nat} (ha : a < 2 ^ 31) : (nI a ≤ 0) = (a = 0) := by rw [← nI_0, e_le ha (by decide)]; simp
