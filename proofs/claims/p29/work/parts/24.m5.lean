/-! THE REFERENCE: what acts do -/
def sp_pan (s : Nat → Nat) (b : Nat) : Nat := s (28 + 4 * b) + s (28 + 4 * b + 1) + s (28 + 4 * b + 2) + s (28 + 4 * b + 3)
def sp_heaps (s : Nat → Nat) (b : Nat) : Nat := sp_acc (fun j => if 0 < s (48 + 32 * b + j) then 1 else 0) 32
def sp_fell (s : Nat → Nat) : Nat := sp_acc (fun j => s (18 + j)) 5
def sp_jolt (s : Nat → Nat) (b : Nat) : Nat → Nat := fun j => if 208 + 32 * b ≤ j ∧ j < 240 + 32 * b ∧ 0 < s (j - 160) then 1 else s j
def sp_empty (s : Nat → Nat) (b : Nat) : Nat → Nat := fun j => if 28 + 4 * b ≤ j ∧ j < 32 + 4 * b then 0 else if j = 4 then s 4 + sp_pan s b else s j
def sp_pour (s : Nat → Nat) (b c k n : Nat) : Nat → Nat := va_up (va_up s (48 + 32 * b + 4 * c + k) (s (48 + 32 * b + 4 * c + k) + n)) (9 + k) (s (9 + k) + n)
def sp_tk : Nat → Nat → (Nat → Nat) → (Nat → Nat)
  | _, 0, s => s
  | i, n + 1, s => sp_tk (i + 1) n (sp_tick s (i % 5))
def sp_pass (s : Nat → Nat) (n : Nat) : Nat → Nat := va_up (sp_tk 0 (n * 5) s) 0 (sp_tk 0 (n * 5) s 0 + n)
def sp_rb (s : Nat → Nat) (b : Nat) : Bool := (List.range 32).all (fun k => !(sp_why s b (k / 4) (k % 4) == 0))
theorem sp_rb_t {s : Nat → Nat} {b : Nat} : sp_rb s b = true ↔ sp_rest s b := by
  unfold sp_rb sp_rest
  simp
theorem sp_rb_f {s : Nat → Nat} {b : Nat} : sp_rb s b = false ↔ ¬ sp_rest s b := by
  rw [← sp_rb_t]; simp
def sp_settle (b : Nat) : Nat → (Nat → Nat) → (Nat → Nat) × Nat
  | 0, s => (s, 0)
  | n + 1, s => if sp_rb s b = true then (s, 0) else ((sp_settle b n (sp_tick s b)).1, (sp_settle b n (sp_tick s b)).2 + 1)
theorem sp_I_tk (n : Nat) : ∀ i s, sp_I s → sp_I (sp_tk i n s) := by
  induction n with
  | zero => intro i s hI; exact hI
  | succ n ih => intro i s hI; exact ih (i + 1) _ (sp_I_tick hI (by omega))
theorem sp_I_settle {b : Nat} (hb : b < 5) (n : Nat) : ∀ s, sp_I s → sp_I (sp_settle b n s).1 := by
  induction n with
  | zero => intro s hI; exact hI
  | succ n ih =>
    intro s hI
    unfold sp_settle
    split
    · exact hI
    · exact ih _ (sp_I_tick hI hb)
theorem sp_settle_le (b : Nat) (n : Nat) : ∀ s, (sp_settle b n s).2 ≤ n := by
  induction n with
  | zero => intro s; exact Nat.le_refl 0
  | succ n ih =>
    intro s
    unfold sp_settle
    split
    · exact Nat.zero_le _
    · have := ih (sp_tick s b)
      show _ + 1 ≤ _
      omega
section M5
variable {E : tb_env} {d : Nat} {h : tb_heap} {nx : Nat} {Q : Option Value → tb_heap → Nat → Prop}
theorem sp_acc_c {f g : Nat → Nat} (n : Nat) (hh : ∀ j, j < n → f j = g j) : sp_acc f n = sp_acc g n := by
  induction n with
  | zero => rfl
  | succ n ih =>
    unfold sp_acc
    rw [ih (fun j hj => hh j (by omega)), hh n (by omega)]
theorem sp_acc_le {f : Nat → Nat} {M : Nat} (n : Nat) (hh : ∀ j, j < n → f j ≤ M) : sp_acc f n ≤ n * M := by
  induction n with
  | zero => exact Nat.zero_le _
  | succ n ih =>
    unfold sp_acc
    have h1 := ih (fun j hj => hh j (by omega))
    have h2 := hh n (by omega)
    rw [Nat.succ_mul]
    omega
theorem sp_heaps_le (s : Nat → Nat) (b : Nat) : sp_heaps s b ≤ 32 := by
  have := sp_acc_le (f := fun j => if 0 < s (48 + 32 * b + j) then 1 else 0) (M := 1) 32 (fun j _ => by split <;> decide)
  exact this
theorem sp_I_jolt {s : Nat → Nat} (hI : sp_I s) {b : Nat} (hb : b < 5) : sp_I (sp_jolt s b) := by
  have low : ∀ j, j < 208 → sp_jolt s b j = s j := fun j hj => by unfold sp_jolt; rw [if_neg (by omega)]
  obtain ⟨i1, i2, i3, i4, i5⟩ := hI
  refine ⟨fun b' c' hb' hc' => ?_, ?_, fun j hj => ?_, fun j hj => ?_, fun j hj => ?_⟩
  · rw [sp_on_c (s := s) (fun k hk => low _ (by omega))]; exact i1 b' c' hb' hc'
  · rw [low 1 (by decide), low 2 (by decide), low 3 (by decide)]; exact i2
  · rw [low _ (by omega)]; exact i3 j hj
  · rw [low _ (by omega)]; exact i4 j hj
  · unfold sp_jolt
    split
    · decide
    · exact i5 j hj
end M5
