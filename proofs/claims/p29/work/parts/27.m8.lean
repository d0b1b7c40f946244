/-! THE REFERENCE: what is told -/
theorem bad_toInt {x : Int32} {n : Nat} (hn : n < 2 ^ 31) (h : tb_bad x n) : x.toInt < 0 ∨ (n : Int) < x.toInt := by
  rcases h with h | h
  · rw [Int32.lt_iff_toInt_lt, nI_toInt (by decide)] at h
    exact Or.inl (by simpa using h)
  · rw [Int32.lt_iff_toInt_lt, nI_toInt hn] at h
    exact Or.inr h
def sp_r1 (s : Nat → Nat) (b : Nat) : Nat := bif sp_rb s b then 1 else 0
def sp_mvh (s : Nat → Nat) (b : Nat) : Nat := sp_acc (fun j => if 0 < s (48 + 32 * b + j) then s (208 + 32 * b + j) else 0) 32
def an_board' (s : Nat → Nat) (b w : Nat) : Int32 := match w with
  | 0 => nI (s (13 + b))
  | 1 => nI (sp_all s b)
  | 2 => nI (sp_pan s b)
  | 3 => nI (s (18 + b))
  | 4 => nI (s (23 + b))
  | 5 => nI (sp_heaps s b)
  | 6 => nI (sp_mvh s b)
  | _ => nI (sp_r1 s b)
def an_board (s : Nat → Nat) (x w : Int32) : Int32 := if x < nI 0 ∨ nI 4 < x then -1 else if w < nI 0 ∨ nI 7 < w then -2 else an_board' s (sp_n x) (sp_n w)
def an_grains (s : Nat → Nat) (x y z : Int32) : Int32 := if (x < nI 0 ∨ nI 4 < x) ∨ (y < nI 0 ∨ nI 7 < y) ∨ (z < nI 0 ∨ nI 3 < z) then -1 else nI (s (48 + 32 * sp_n x + 4 * sp_n y + sp_n z))
def an_needs (s : Nat → Nat) (x y z : Int32) : Int32 := if (x < nI 0 ∨ nI 4 < x) ∨ (y < nI 0 ∨ nI 7 < y) ∨ (z < nI 0 ∨ nI 3 < z) then -1 else if s (48 + 32 * sp_n x + 4 * sp_n y + sp_n z) = 0 then -5 else nI (sp_need s (sp_n x) (sp_n y) (sp_n z))
def an_reason (s : Nat → Nat) (x y z : Int32) : Int32 := if (x < nI 0 ∨ nI 4 < x) ∨ (y < nI 0 ∨ nI 7 < y) ∨ (z < nI 0 ∨ nI 3 < z) then -1 else nI (sp_why s (sp_n x) (sp_n y) (sp_n z))
def an_pan (s : Nat → Nat) (x z : Int32) : Int32 := if (x < nI 0 ∨ nI 4 < x) ∨ (z < nI 0 ∨ nI 3 < z) then -1 else nI (s (28 + 4 * sp_n x + sp_n z))
def an_kind' (s : Nat → Nat) (k w : Nat) : Int32 := match w with
  | 0 => nI (s (5 + k))
  | 1 => nI (sp_acc (fun j => s (48 + k + 4 * j)) 40)
  | 2 => nI (sp_acc (fun j => s (28 + k + 4 * j)) 5)
  | _ => nI (s (9 + k))
def an_kind (s : Nat → Nat) (x w : Int32) : Int32 := if x < nI 0 ∨ nI 3 < x then -1 else if w < nI 0 ∨ nI 3 < w then -2 else an_kind' s (sp_n x) (sp_n w)
def sp_lst (s : Nat → Nat) (b : Nat) : Nat → Nat
  | 0 => 91
  | n + 1 => if 0 < s (48 + 32 * b + n) ∧ 0 < sp_room s b (n / 4) ∧ sp_need s b (n / 4) (n % 4) < sp_lst s b n then sp_need s b (n / 4) (n % 4) else sp_lst s b n
def sp_l5 (n : Nat) : Int32 := if n ≤ 90 then nI n else -5
def an_least (s : Nat → Nat) (x : Int32) : Int32 := if x < nI 0 ∨ nI 4 < x then -1 else sp_l5 (sp_lst s (sp_n x) 32)
def an_rests (s : Nat → Nat) (x : Int32) : Int32 := if x < nI 0 ∨ nI 4 < x then -1 else bif sp_rb (sp_settle (sp_n x) 300 s).1 (sp_n x) then nI (sp_settle (sp_n x) 300 s).2 else -5
def sp_til (s : Nat → Nat) (b a w : Nat) : Int32 :=
  let r := sp_settle b 300 (va_up s (13 + b) a)
  if w = 0 then nI r.2 else if w = 1 then nI (r.1 (18 + b)) - nI (s (18 + b)) else if w = 2 then nI (r.1 (23 + b)) - nI (s (23 + b)) else nI (sp_all r.1 b)
def an_til (s : Nat → Nat) (x y w : Int32) : Int32 := if x < nI 0 ∨ nI 4 < x then -1 else if (y < nI 0 ∨ nI 90 < y) ∨ (w < nI 0 ∨ nI 3 < w) then -2 else sp_til s (sp_n x) (sp_n y) (sp_n w)
def sp_clr (s : Nat → Nat) (b : Nat) : Nat → Int32
  | 0 => -5
  | n + 1 => if sp_til s b (90 - n) 3 = 0 then nI (90 - n) else sp_clr s b n
def an_clr (s : Nat → Nat) (x : Int32) : Int32 := if x < nI 0 ∨ nI 4 < x then -1 else sp_clr s (sp_n x) 91
def sp_wg (s : Nat → Nat) (k a : Nat) (most : Int32) : Nat → Int32
  | 0 => -5
  | n + 1 => if s (5 + k) + (n + 1) / s 2 = a ∧ (¬ most = 0 ∨ sp_wg s k a most n = -5) then nI (n + 1) else sp_wg s k a most n
def an_wg (s : Nat → Nat) (x y most : Int32) : Int32 := if x < nI 0 ∨ nI 3 < x then -1 else if y < nI 0 ∨ nI 90 < y then -2 else sp_wg s (sp_n x) (sp_n y) most 99
def an_count' (s : Nat → Nat) (kn le w : Nat) : Int32 := match w with
  | 0 => nI (s 0)
  | 1 => nI (sp_acc (fun j => s (48 + j)) 160)
  | 2 => nI (sp_acc (fun j => s (28 + j)) 20)
  | 3 => nI (sp_acc (fun j => s (23 + j)) 5)
  | 4 => nI (sp_acc (fun j => s (9 + j)) 4)
  | 5 => nI (s 4)
  | 6 => nI (sp_r1 s 0 + sp_r1 s 1 + sp_r1 s 2 + sp_r1 s 3 + sp_r1 s 4)
  | 7 => nI (s 1)
  | 8 => nI (s 2)
  | 9 => nI (s 3)
  | 10 => nI kn
  | _ => nI le
def an_count (s : Nat → Nat) (kn le : Nat) (w : Int32) : Int32 := if w < nI 0 ∨ nI 11 < w then -2 else an_count' s kn le (sp_n w)
section M8
variable {E : tb_env} {d : Nat} {h : tb_heap} {nx : Nat} {Q : Option Value → tb_heap → Nat → Prop} {m : Nat} {s : Nat → Nat}
theorem sp_r1_le (s : Nat → Nat) (b : Nat) : sp_r1 s b ≤ 1 := by unfold sp_r1; cases sp_rb s b <;> decide
theorem tb_place {x y z : Int32} : ((x < nI 0 ∨ nI 4 < x) ∨ (y < nI 0 ∨ nI 7 < y) ∨ (z < nI 0 ∨ nI 3 < z)) ∨ ∃ b c k, b ≤ 4 ∧ c ≤ 7 ∧ k ≤ 3 ∧ x = nI b ∧ y = nI c ∧ z = nI k := by
  rcases tb_gd x (show 4 < 2 ^ 31 by decide) with hb | ⟨b, hb, rfl⟩
  · exact Or.inl (Or.inl hb)
  · rcases tb_gd y (show 7 < 2 ^ 31 by decide) with hc | ⟨c, hc, rfl⟩
    · exact Or.inl (Or.inr (Or.inl hc))
    · rcases tb_gd z (show 3 < 2 ^ 31 by decide) with hk | ⟨k, hk, rfl⟩
      · exact Or.inl (Or.inr (Or.inr hk))
      · exact Or.inr ⟨b, c, k, hb, hc, hk, rfl, rfl, rfl⟩
theorem tb_place_ok {b c k : Nat} (hb : b ≤ 4) (hc : c ≤ 7) (hk : k ≤ 3) : ¬ ((nI b < nI 0 ∨ nI 4 < nI b) ∨ (nI c < nI 0 ∨ nI 7 < nI c) ∨ (nI k < nI 0 ∨ nI 3 < nI k)) := by
  rintro (h | h | h)
  · exact e_ok hb (by decide) h
  · exact e_ok hc (by decide) h
  · exact e_ok hk (by decide) h
theorem sp_lst_le (s : Nat → Nat) (b : Nat) (n : Nat) : sp_lst s b n ≤ 91 := by
  induction n with
  | zero => exact Nat.le_refl _
  | succ n ih => unfold sp_lst; split <;> omega
end M8
