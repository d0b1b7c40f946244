/-! THE REFERENCE: rest, sliding, a tick -/
theorem va_up_s {f : Nat → Nat} {k v : Nat} : va_up f k v k = v := by simp [va_up]
theorem va_up_n {f : Nat → Nat} {k v j : Nat} (h : j ≠ k) : va_up f k v j = f j := by simp [va_up, h]
def sp_rest (s : Nat → Nat) (b : Nat) : Prop := ∀ k, k < 32 → ¬ sp_why s b (k / 4) (k % 4) = 0
def sp_lt (s : Nat → Nat) (i j : Nat) : Nat := if s (5 + i) < s (5 + j) ∨ (s (5 + i) = s (5 + j) ∧ i < j) then 1 else 0
def sp_rank (s : Nat → Nat) (k : Nat) : Nat := sp_lt s 0 k + sp_lt s 1 k + sp_lt s 2 k + sp_lt s 3 k
def sp_kd (s : Nat → Nat) (t : Nat) : Nat := if sp_rank s 3 = t then 3 else if sp_rank s 2 = t then 2 else if sp_rank s 1 = t then 1 else 0
theorem sp_rank_all (s : Nat → Nat) {t : Nat} (ht : t < 4) : sp_rank s 0 = t ∨ sp_rank s 1 = t ∨ sp_rank s 2 = t ∨ sp_rank s 3 = t := by
  unfold sp_rank sp_lt
  generalize s (5 + 0) = x0
  generalize s (5 + 1) = x1
  generalize s (5 + 2) = x2
  generalize s (5 + 3) = x3
  have e1 : ∀ (a b : Nat) (i j : Nat), i < j → (if a < b ∨ (a = b ∧ i < j) then 1 else 0) = (if a ≤ b then 1 else 0 : Nat) := by
    intro a b i j h
    by_cases q : a ≤ b
    · rw [if_pos q, if_pos]; omega
    · rw [if_neg q, if_neg]; omega
  have e2 : ∀ (a b : Nat) (i j : Nat), j ≤ i → (if a < b ∨ (a = b ∧ i < j) then 1 else 0) = (if a < b then 1 else 0 : Nat) := by
    intro a b i j h
    by_cases q : a < b
    · rw [if_pos q, if_pos]; omega
    · rw [if_neg q, if_neg]; omega
  rw [e1 x0 x1 0 1 (by decide), e1 x0 x2 0 2 (by decide), e1 x0 x3 0 3 (by decide), e1 x1 x2 1 2 (by decide), e1 x1 x3 1 3 (by decide), e1 x2 x3 2 3 (by decide), e2 x0 x0 0 0 (by decide), e2 x1 x0 1 0 (by decide), e2 x2 x0 2 0 (by decide), e2 x3 x0 3 0 (by decide), e2 x1 x1 1 1 (by decide), e2 x2 x1 2 1 (by decide), e2 x3 x1 3 1 (by decide), e2 x2 x2 2 2 (by decide), e2 x3 x2 3 2 (by decide), e2 x3 x3 3 3 (by decide)]
  have f : ∀ (a b : Nat), (if a ≤ b then 1 else 0 : Nat) + (if b < a then 1 else 0) = 1 := by
    intro a b
    by_cases q : a ≤ b
    · rw [if_pos q, if_neg (by omega)]
    · rw [if_neg q, if_pos (by omega)]
  by_cases a1 : x0 ≤ x1 <;> by_cases a2 : x0 ≤ x2 <;> by_cases a3 : x0 ≤ x3 <;> by_cases a4 : x1 ≤ x2 <;> by_cases a5 : x1 ≤ x3 <;> by_cases a6 : x2 ≤ x3 <;>
  · have b1 := f x0 x1
    have b2 := f x0 x2
    have b3 := f x0 x3
    have b4 := f x1 x2
    have b5 := f x1 x3
    have b6 := f x2 x3
    simp only [a1, a2, a3, a4, a5, a6, if_true, if_false, Nat.lt_irrefl] at b1 b2 b3 b4 b5 b6 ⊢
    omega
theorem sp_kd_ok (s : Nat → Nat) {t : Nat} (ht : t < 4) : sp_kd s t < 4 ∧ sp_rank s (sp_kd s t) = t := by
  have h := sp_rank_all s ht
  unfold sp_kd
  split
  · exact ⟨by decide, by assumption⟩
  · split
    · exact ⟨by decide, by assumption⟩
    · split
      · exact ⟨by decide, by assumption⟩
      · refine ⟨by decide, ?_⟩
        rcases h with h | h | h | h
        · exact h
        · exact absurd h (by assumption)
        · exact absurd h (by assumption)
        · exact absurd h (by assumption)
def sp_g (s : Nat → Nat) (b c k : Nat) : Nat := if s (48 + 32 * b + 4 * c + k) < sp_room s b c then s (48 + 32 * b + 4 * c + k) else sp_room s b c
def sp_sl (s : Nat → Nat) (b c k : Nat) : Nat → Nat :=
  let g := sp_g s b c k
  let u := g / s 3
  let s1 := va_up s (48 + 32 * b + 4 * c + k) (s (48 + 32 * b + 4 * c + k) - g)
  let s2 := va_up s1 (23 + b) (s1 (23 + b) + u)
  if c = 7 then
    let s3 := va_up s2 (28 + 4 * b + k) (s2 (28 + 4 * b + k) + (g - u))
    va_up s3 (18 + b) (s3 (18 + b) + (g - u))
  else va_up s2 (48 + 32 * b + 4 * (c + 1) + k) (s2 (48 + 32 * b + 4 * (c + 1) + k) + (g - u))
def sp_cm (s cm : Nat → Nat) (b c k : Nat) : Nat → Nat := if c = 7 then cm else va_up cm (4 * c + 4 + k) (if sp_g s b c k ≤ sp_g s b c k / s 3 then 0 else 1)
def tb_MC (h : tb_heap) (m : Nat) (s cm : Nat → Nat) : Prop := tb_MS h m s ∧ tb_isA h (m + 7) 0 32 (fun j => nI (cm j))
theorem tb_MC.st {h : tb_heap} {m : Nat} {s cm : Nat → Nat} (hM : tb_MC h m s cm) {j v : Nat} (hj : j < 32) {K : tb_heap → Prop} (hK : ∀ h', tb_MC h' m s (va_up cm j v) → (∀ q, q ≠ m + 7 → h' q = h q) → K h') : tb_wF (tb_stv h 0 (m + 7) (nI j) (nI v)) K := by
  refine hM.2.st hj (by decide) (fun h' hA hF => hK h' ⟨hM.1.to (hF _ (by omega)) (hF _ (by omega)) (fun _ _ => rfl), hA.to rfl (fun i hi => ?_)⟩ hF)
  unfold upd va_up
  dsimp only
  split <;> rfl
section M2
variable {E : tb_env} {d : Nat} {h : tb_heap} {nx : Nat} {Q : Option Value → tb_heap → Nat → Prop}
end M2
