/-! THE REFERENCE: the reader of texts -/
def ps_t (tx : Nat → Nat) (le lo hi : Nat) (r : Bool × Nat) : Bool × Nat := if r.1 = true ∧ r.2 < le ∧ lo ≤ tx r.2 ∧ tx r.2 ≤ hi then (true, r.2 + 1) else (false, r.2)
def ps_w (b : Bool) : Nat := if b = true then 0 else 1
abbrev ps_two (tx : Nat → Nat) (le hi p : Nat) : Prop := 48 < tx p ∧ p + 1 < le ∧ 48 ≤ tx (p + 1) ∧ tx (p + 1) ≤ 57 ∧ 10 * (tx p - 48) + (tx (p + 1) - 48) ≤ hi
def ps_num (tx : Nat → Nat) (le lo hi : Nat) (r : Bool × Nat) : Bool × Nat := if (ps_t tx le (48 + lo) 57 r).1 = true ∧ ps_two tx le hi r.2 then (true, r.2 + 2) else ps_t tx le (48 + lo) 57 r
def ps_val (tx : Nat → Nat) (le hi p : Nat) : Nat := if ps_two tx le hi p then 10 * (tx p - 48) + (tx (p + 1) - 48) else tx p - 48
abbrev ps_V : Type := Nat × Nat × Nat × Nat × Nat
abbrev ps_isv (c : Nat) : Prop := c = 116 ∨ c = 112 ∨ c = 106 ∨ c = 101 ∨ c = 46
def ps_ord (tx : Nat → Nat) (le p : Nat) : (Bool × Nat) × ps_V :=
  if ¬ (p < le ∧ ps_isv (tx p)) then ((false, p), (0, 0, 0, 0, 0))
  else if tx p = 46 then (ps_num tx le 1 99 (true, p + 1), (46, 0, 0, 0, ps_val tx le 99 (p + 1)))
  else if tx p = 116 then (ps_num tx le 0 90 (ps_t tx le 61 61 (ps_t tx le 48 52 (true, p + 1))), (116, tx (p + 1) - 48, 0, 0, ps_val tx le 90 (p + 3)))
  else if tx p = 112 then (ps_num tx le 1 99 (ps_t tx le 42 42 (ps_t tx le 48 51 (ps_t tx le 48 55 (ps_t tx le 48 52 (true, p + 1))))), (112, tx (p + 1) - 48, tx (p + 2) - 48, tx (p + 3) - 48, ps_val tx le 99 (p + 5)))
  else (ps_t tx le 48 52 (true, p + 1), (tx p, tx (p + 1) - 48, 0, 0, 0))
theorem ps_t_ok {tx : Nat → Nat} {le lo hi : Nat} {r : Bool × Nat} (h : (ps_t tx le lo hi r).1 = true) : r.1 = true ∧ r.2 < le ∧ lo ≤ tx r.2 ∧ tx r.2 ≤ hi ∧ (ps_t tx le lo hi r).2 = r.2 + 1 := by
  unfold ps_t at h ⊢
  by_cases c : r.1 = true ∧ r.2 < le ∧ lo ≤ tx r.2 ∧ tx r.2 ≤ hi
  · rw [if_pos c]; exact ⟨c.1, c.2.1, c.2.2.1, c.2.2.2, rfl⟩
  · rw [if_neg c] at h; cases h
theorem ps_t_le {tx : Nat → Nat} {le lo hi : Nat} {r : Bool × Nat} (h : r.2 ≤ le) : (ps_t tx le lo hi r).2 ≤ le := by
  unfold ps_t
  by_cases c : r.1 = true ∧ r.2 < le ∧ lo ≤ tx r.2 ∧ tx r.2 ≤ hi
  · rw [if_pos c]; show r.2 + 1 ≤ le; omega
  · rw [if_neg c]; exact h
theorem ps_num_ok {tx : Nat → Nat} {le lo hi : Nat} {r : Bool × Nat} (hh : 9 ≤ hi) (h : (ps_num tx le lo hi r).1 = true) : r.1 = true ∧ r.2 < le ∧ lo ≤ ps_val tx le hi r.2 ∧ ps_val tx le hi r.2 ≤ hi ∧ r.2 + 1 ≤ (ps_num tx le lo hi r).2 ∧ (ps_num tx le lo hi r).2 ≤ le := by
  unfold ps_num at h ⊢
  by_cases c : (ps_t tx le (48 + lo) 57 r).1 = true ∧ ps_two tx le hi r.2
  · rw [if_pos c]
    have k := ps_t_ok c.1
    obtain ⟨c1, c2, c3, c4, c5⟩ := c.2
    unfold ps_val
    rw [if_pos c.2]
    dsimp only
    exact ⟨k.1, k.2.1, by omega, c5, by omega, by omega⟩
  · rw [if_neg c] at h ⊢
    have k := ps_t_ok h
    unfold ps_val
    rw [if_neg (fun q => c ⟨h, q⟩)]
    exact ⟨k.1, k.2.1, by omega, by omega, by omega, by omega⟩
theorem ps_num_le {tx : Nat → Nat} {le lo hi : Nat} {r : Bool × Nat} (h : r.2 ≤ le) : (ps_num tx le lo hi r).2 ≤ le := by
  unfold ps_num
  by_cases c : (ps_t tx le (48 + lo) 57 r).1 = true ∧ ps_two tx le hi r.2
  · rw [if_pos c]; have := c.2.2.1; show r.2 + 2 ≤ le; omega
  · rw [if_neg c]; exact ps_t_le h
theorem ps_ord_le {tx : Nat → Nat} {le p : Nat} (h : p ≤ le) : (ps_ord tx le p).1.2 ≤ le := by
  unfold ps_ord
  by_cases c : p < le ∧ ps_isv (tx p)
  · rw [if_neg (fun q => q c)]
    have h1 : p + 1 ≤ le := c.1
    split
    · exact ps_num_le h1
    · split
      · exact ps_num_le (ps_t_le (ps_t_le h1))
      · split
        · exact ps_num_le (ps_t_le (ps_t_le (ps_t_le (ps_t_le h1))))
        · exact ps_t_le h1
  · rw [if_pos c]; exact h
/-- an order that is no fault -/
theorem ps_ord_ok {tx : Nat → Nat} {le p : Nat} (h : (ps_ord tx le p).1.1 = true) : p + 2 ≤ (ps_ord tx le p).1.2 ∧ (ps_ord tx le p).1.2 ≤ le ∧ ∃ b c k n, b ≤ 4 ∧ c ≤ 7 ∧ k ≤ 3 ∧
    (((ps_ord tx le p).2 = (46, 0, 0, 0, n) ∧ 1 ≤ n ∧ n ≤ 99) ∨ ((ps_ord tx le p).2 = (116, b, 0, 0, n) ∧ n ≤ 90) ∨ ((ps_ord tx le p).2 = (112, b, c, k, n) ∧ 1 ≤ n ∧ n ≤ 99) ∨ (ps_ord tx le p).2 = (106, b, 0, 0, 0) ∨ (ps_ord tx le p).2 = (101, b, 0, 0, 0)) := by
  unfold ps_ord at h ⊢
  by_cases c : p < le ∧ ps_isv (tx p)
  · rw [if_neg (fun q => q c)] at h ⊢
    by_cases c1 : tx p = 46
    · rw [if_pos c1] at h ⊢
      obtain ⟨k1, k2, k3, k4, k5, k6⟩ := ps_num_ok (by decide) h
      exact ⟨by simpa using k5, k6, 0, 0, 0, _, by omega, by omega, by omega, Or.inl ⟨rfl, k3, k4⟩⟩
    · rw [if_neg c1] at h ⊢
      by_cases c2 : tx p = 116
      · rw [if_pos c2] at h ⊢
        obtain ⟨k1, k2, k3, k4, k5, k6⟩ := ps_num_ok (by decide) h
        obtain ⟨a1, a2, a3, a4, a5⟩ := ps_t_ok k1
        obtain ⟨b1, b2, b3, b4, b5⟩ := ps_t_ok a1
        dsimp only at *
        have e : (ps_t tx le 61 61 (ps_t tx le 48 52 (true, p + 1))).2 = p + 3 := by omega
        rw [e] at k4
        exact ⟨by omega, k6, tx (p + 1) - 48, 0, 0, _, by omega, by omega, by omega, Or.inr (Or.inl ⟨rfl, k4⟩)⟩
      · rw [if_neg c2] at h ⊢
        by_cases c3 : tx p = 112
        · rw [if_pos c3] at h ⊢
          obtain ⟨k1, k2, k3, k4, k5, k6⟩ := ps_num_ok (by decide) h
          obtain ⟨a1, a2, a3, a4, a5⟩ := ps_t_ok k1
          obtain ⟨b1, b2, b3, b4, b5⟩ := ps_t_ok a1
          obtain ⟨d1, d2, d3, d4, d5⟩ := ps_t_ok b1
          obtain ⟨e1, e2, e3, e4, e5⟩ := ps_t_ok d1
          dsimp only at *
          have f1 : (ps_t tx le 48 52 (true, p + 1)).2 = p + 2 := by omega
          rw [f1] at d3 d4 d5
          have f2 : (ps_t tx le 48 55 (ps_t tx le 48 52 (true, p + 1))).2 = p + 3 := by omega
          rw [f2] at b3 b4 b5
          have f3 : (ps_t tx le 42 42 (ps_t tx le 48 51 (ps_t tx le 48 55 (ps_t tx le 48 52 (true, p + 1))))).2 = p + 5 := by omega
          rw [f3] at k3 k4
          exact ⟨by omega, k6, tx (p + 1) - 48, tx (p + 2) - 48, tx (p + 3) - 48, _, by omega, by omega, by omega, Or.inr (Or.inr (Or.inl ⟨rfl, k3, k4⟩))⟩
        · rw [if_neg c3] at h ⊢
          obtain ⟨e1, e2, e3, e4, e5⟩ := ps_t_ok h
          dsimp only at *
          refine ⟨by omega, by omega, tx (p + 1) - 48, 0, 0, 0, by omega, by omega, by omega, ?_⟩
          rcases c.2 with q | q | q | q | q
          · exact absurd q c2
          · exact absurd q c3
          · rw [q]; exact Or.inr (Or.inr (Or.inr (Or.inl rfl)))
          · rw [q]; exact Or.inr (Or.inr (Or.inr (Or.inr rfl)))
          · exact absurd q c1
  · rw [if_pos c] at h; cases h
/-- what the reader changes in the model -/
def tb_MP (h : tb_heap) (m : Nat) (s : Nat → Nat) (kn : Int32) (g : sp_G) (r : Bool × Nat) (sp : Int32) (as ah cm od : Nat → Int32) (bf : Nat → Nat) : Prop := tb_MG h m s kn g (nI r.2) (nI (ps_w r.1)) sp as ah cm od bf
section M10
variable {E : tb_env} {d : Nat} {h : tb_heap} {nx : Nat} {Q : Option Value → tb_heap → Nat → Prop} {m : Nat} {s : Nat → Nat} {kn : Int32} {g : sp_G} {sp : Int32} {as ah cm od : Nat → Int32} {bf : Nat → Nat}
end M10
