/-! THE REFERENCE: the acts -/
def sp_n (x : Int32) : Nat := x.toNatClampNeg
theorem sp_n_nI {j : Nat} (h : j < 2 ^ 31) : sp_n (nI j) = j := nI_clamp h
def sp_J (s : Nat → Nat) : Prop := s 0 ≤ 99999 ∧ ∀ b k, b < 5 → k < 4 → s (28 + 4 * b + k) ≤ 396 * s 0
theorem sp_pan_lt {s : Nat → Nat} (hJ : sp_J s) {b : Nat} (hb : b < 5) : sp_pan s b < 2 ^ 31 := by
  obtain ⟨h1, h2⟩ := hJ
  have a0 := h2 b 0 hb (by decide)
  have a1 := h2 b 1 hb (by decide)
  have a2 := h2 b 2 hb (by decide)
  have a3 := h2 b 3 hb (by decide)
  rw [Nat.add_zero] at a0
  unfold sp_pan
  omega
theorem sp_acc_0 {f : Nat → Nat} (n : Nat) (h : sp_acc f n = 0) : ∀ j, j < n → f j = 0 := by
  induction n with
  | zero => intro j hj; omega
  | succ n ih =>
    unfold sp_acc at h
    intro j hj
    by_cases c : j = n
    · rw [c]; omega
    · exact ih (by omega) j (by omega)
theorem sp_jolt_0 {s : Nat → Nat} {b : Nat} (h : sp_heaps s b = 0) : ∀ j, sp_jolt s b j = s j := by
  intro j
  unfold sp_jolt
  by_cases c : 208 + 32 * b ≤ j ∧ j < 240 + 32 * b ∧ 0 < s (j - 160)
  · have := sp_acc_0 32 h (j - (208 + 32 * b)) (by omega)
    rw [show 48 + 32 * b + (j - (208 + 32 * b)) = j - 160 by omega, if_pos c.2.2] at this
    cases this
  · rw [if_neg c]
theorem sp_empty_0 {s : Nat → Nat} {b : Nat} (h : sp_pan s b = 0) : ∀ j, sp_empty s b j = s j := by
  intro j
  unfold sp_empty
  split
  · rename_i c
    unfold sp_pan at h
    rcases (by omega : j = 28 + 4 * b ∨ j = 28 + 4 * b + 1 ∨ j = 28 + 4 * b + 2 ∨ j = 28 + 4 * b + 3) with rfl | rfl | rfl | rfl <;> omega
  · split
    · rename_i c; rw [c, h, Nat.add_zero]
    · rfl
def ac_tilt (s : Nat → Nat) (x y : Int32) : Int32 × (Nat → Nat) := if x < nI 0 ∨ nI 4 < x then (-1, s) else if y < nI 0 ∨ nI 90 < y then (-2, s) else if s (13 + sp_n x) = sp_n y then (-5, s) else (nI (s (13 + sp_n x)), va_up s (13 + sp_n x) (sp_n y))
def ac_pour (s : Nat → Nat) (x y z w : Int32) : Int32 × (Nat → Nat) := if (x < nI 0 ∨ nI 4 < x) ∨ (y < nI 0 ∨ nI 7 < y) ∨ (z < nI 0 ∨ nI 3 < z) then (-1, s) else if w < nI 1 ∨ nI 99 < w then (-2, s) else if 99 < sp_on s (sp_n x) (sp_n y) + sp_n w then (-3, s) else (nI (s (48 + 32 * sp_n x + 4 * sp_n y + sp_n z) + sp_n w), sp_pour s (sp_n x) (sp_n y) (sp_n z) (sp_n w))
def ac_jolt (s : Nat → Nat) (x : Int32) : Int32 × (Nat → Nat) := if x < nI 0 ∨ nI 4 < x then (-1, s) else if sp_heaps s (sp_n x) = 0 then (-5, s) else (nI (sp_heaps s (sp_n x)), sp_jolt s (sp_n x))
def ac_empty (s : Nat → Nat) (x : Int32) : Int32 × (Nat → Nat) := if x < nI 0 ∨ nI 4 < x then (-1, s) else if sp_pan s (sp_n x) = 0 then (-5, s) else (nI (sp_pan s (sp_n x)), sp_empty s (sp_n x))
def ac_grip (s : Nat → Nat) (x y : Int32) : Int32 × (Nat → Nat) := if x < nI 0 ∨ nI 3 < x then (-1, s) else if y < nI 0 ∨ nI 80 < y then (-2, s) else if s (5 + sp_n x) = sp_n y then (-5, s) else (nI (s (5 + sp_n x)), va_up s (5 + sp_n x) (sp_n y))
def ac_set (s : Nat → Nat) (x y : Int32) : Int32 × (Nat → Nat) := if x < nI 0 ∨ nI 2 < x then (-1, s) else if y < x ∨ (if x = nI 0 then nI 30 else nI 99) < y then (-2, s) else if s (1 + sp_n x) = sp_n y then (-5, s) else (nI (s (1 + sp_n x)), va_up s (1 + sp_n x) (sp_n y))
def ac_pass (s : Nat → Nat) (x : Int32) : Int32 × (Nat → Nat) := if x < nI 1 ∨ nI 99 < x then (-2, s) else if 99999 < s 0 + sp_n x then (-3, s) else (nI (sp_fell (sp_pass s (sp_n x))) - nI (sp_fell s), sp_pass s (sp_n x))
theorem sp_rc_neg {r : Int32} (h : r < 0) {hs : Nat → Nat → Nat} {kn : Nat} {s : Nat → Nat} : sp_rc r hs kn s = (hs, kn) := by unfold sp_rc; rw [if_pos h]
theorem e_ok {j n : Nat} (h : j ≤ n) (hn : n < 2 ^ 31) : ¬ (nI j < nI 0 ∨ nI n < nI j) := by
  rw [nI_ltI (by omega) (by omega), nI_ltI hn (by omega)]; omega
theorem e_ok1 {j n : Nat} (h1 : 1 ≤ j) (h : j ≤ n) (hn : n < 2 ^ 31) : ¬ (nI j < nI 1 ∨ nI n < nI j) := by
  rw [nI_ltI (by omega) (by omega), nI_ltI hn (by omega)]; omega
theorem tb_gd1 (x : Int32) {n : Nat} (hn : n < 2 ^ 31) : (x < nI 1 ∨ nI n < x) ∨ ∃ j, 1 ≤ j ∧ j ≤ n ∧ x = nI j := by
  by_cases h1 : x < nI 1
  · exact Or.inl (Or.inl h1)
  · by_cases h2 : nI n < x
    · exact Or.inl (Or.inr h2)
    · have h0 : ¬ x < 0 := fun q => h1 (by
        rw [Int32.lt_iff_toInt_lt] at q ⊢
        have e1 : (nI 1).toInt = 1 := nI_toInt (by decide)
        rw [Int32.toInt_zero] at q
        omega)
      obtain ⟨j, hj, rfl⟩ := nI_of (x := x) h0
      rw [nI_ltI hj (by decide)] at h1
      rw [nI_ltI hn hj] at h2
      exact Or.inr ⟨j, by omega, by omega, rfl⟩
theorem tb_out.o1 {h h' : tb_heap} {m : Nat} (hF : ∀ q, q ≠ m + 1 → h' q = h q) : tb_out h h' m (m + 9) := fun q hq => hF q (by omega)
theorem tb_out.o17 {h h' : tb_heap} {m : Nat} (hF : ∀ q, q ≠ m + 1 → q ≠ m + 7 → h' q = h q) : tb_out h h' m (m + 9) := fun q hq => hF q (by omega) (by omega)
section M7
variable {E : tb_env} {d : Nat} {h : tb_heap} {nx : Nat} {Q : Option Value → tb_heap → Nat → Prop}
variable {m kn : Nat} {s : Nat → Nat} {hs : Nat → Nat → Nat} {g : sp_G}
theorem tb_MF.to {h : tb_heap} {m kn : Nat} {s s' : Nat → Nat} {hs : Nat → Nat → Nat} {g : sp_G} (hF : tb_MF h m s hs kn g) (hh : ∀ j, j < 368 → s j = s' j) : tb_MF h m s' hs kn g := by
  obtain ⟨po, wr, sp, as, ah, cm, od, bf, ⟨a1, a2, a3⟩, hH⟩ := hF
  exact ⟨po, wr, sp, as, ah, cm, od, bf, ⟨a1, a2.to rfl (fun j hj => by rw [hh j hj]), a3⟩, hH⟩
end M7
