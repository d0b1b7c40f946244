/-! WHAT WOULD BE: coming to rest, the angle that clears, what weighs -/
theorem settle_t1 (b : Nat) (n : Nat) : ∀ s, (sp_settle b n s).1 = sp_t1 b (sp_settle b n s).2 s := by
  induction n with
  | zero => intro s; rfl
  | succ n ih =>
    intro s
    rw [sp_settle]
    split
    · rfl
    · dsimp only
      rw [ih, sp_t1]
theorem settle_rb (b : Nat) (n : Nat) : ∀ s, (sp_settle b n s).2 < n → sp_rb (sp_settle b n s).1 b = true := by
  induction n with
  | zero => intro s h; omega
  | succ n ih =>
    intro s h
    rw [sp_settle] at h ⊢
    split at h
    · rename_i c
      rw [if_pos c]; exact c
    · rename_i c
      rw [if_neg c]
      dsimp only at h ⊢
      exact ih _ (by omega)
theorem settle_no (b : Nat) (n : Nat) : ∀ s j, j < (sp_settle b n s).2 → sp_rb (sp_t1 b j s) b = false := by
  induction n with
  | zero => intro s j h; have h : j < 0 := h; omega
  | succ n ih =>
    intro s j h
    rw [sp_settle] at h
    split at h
    · have h : j < 0 := h; omega
    · rename_i c
      dsimp only at h
      cases j with
      | zero => exact Bool.not_eq_true _ ▸ c
      | succ j => exact ih _ j (by omega)
theorem ag_rb {s s' : Nat → Nat} {b : Nat} (h : sp_ag s s' b) : sp_rb s b = sp_rb s' b := by
  have e : sp_rest s b ↔ sp_rest s' b := by
    unfold sp_rest
    constructor
    · intro q k hk
      rw [← ag_why h (by omega) (Nat.mod_lt _ (by decide))]
      exact q k hk
    · intro q k hk
      rw [ag_why h (by omega) (Nat.mod_lt _ (by decide))]
      exact q k hk
  cases h1 : sp_rb s b with
  | true => exact (sp_rb_t.mpr (e.mp (sp_rb_t.mp h1))).symm
  | false => exact (sp_rb_f.mpr (fun q => (sp_rb_f.mp h1) (e.mpr q))).symm
theorem pass_ag {s : Nat → Nat} {b n : Nat} (hb : b < 5) : sp_ag (sp_pass s n) (sp_t1 b n s) b := by
  have h := ag_tk hb (n * 5) 0 s s (fun j _ => rfl)
  rw [show (0 + n * 5 + 4 - b) / 5 - (0 + 4 - b) / 5 = n by omega] at h
  intro j hj
  unfold sp_pass
  rw [va_up_n (by unfold sp_loc at hj; omega)]
  exact h j hj
section PP
variable {s : Nat → Nat} {b a : Nat}
/-- the board tilted, come to rest -/
def pp_v (s : Nat → Nat) (b a : Nat) : Nat → Nat := va_up s (13 + b) a
def pp_F (s : Nat → Nat) (b a : Nat) : Nat → Nat := (sp_settle b 300 (pp_v s b a)).1
def pp_m (s : Nat → Nat) (b a : Nat) : Nat := (sp_settle b 300 (pp_v s b a)).2
theorem pp_mle : pp_m s b a ≤ 300 := sp_settle_le b 300 _
theorem F_t1 : pp_F s b a = sp_t1 b (pp_m s b a) (pp_v s b a) := settle_t1 b 300 _
theorem F_R (hb : b < 5) : pp_R b (pp_v s b a) (pp_F s b a) := by rw [F_t1]; exact R_t1 hb _ _
theorem v_18 (hb : b < 5) : pp_v s b a (18 + b) = s (18 + b) ∧ pp_v s b a (23 + b) = s (23 + b) ∧ sp_all (pp_v s b a) b = sp_all s b := ⟨va_up_n (by omega), va_up_n (by omega), all_out (by omega)⟩
theorem F_cons (hb : b < 5) : sp_all (pp_F s b a) b + pp_F s b a (18 + b) + pp_F s b a (23 + b) = sp_all s b + s (18 + b) + s (23 + b) ∧ s (18 + b) ≤ pp_F s b a (18 + b) ∧ s (23 + b) ≤ pp_F s b a (23 + b) := by
  obtain ⟨r1, r2, r3, -⟩ := F_R (s := s) (a := a) hb
  obtain ⟨e1, e2, e3⟩ := v_18 (s := s) (a := a) hb
  omega
theorem til_0 : sp_til s b a 0 = nI (pp_m s b a) := rfl
theorem til_1 (hb : b < 5) : sp_til s b a 1 = nI (pp_F s b a (18 + b) - s (18 + b)) := e_sub (F_cons hb).2.1
theorem til_2 (hb : b < 5) : sp_til s b a 2 = nI (pp_F s b a (23 + b) - s (23 + b)) := e_sub (F_cons hb).2.2
theorem til_3 : sp_til s b a 3 = nI (sp_all (pp_F s b a) b) := rfl
theorem til_sum (hb : b < 5) : sp_til s b a 1 + sp_til s b a 2 + sp_til s b a 3 = nI (sp_all s b) := by
  have h := F_cons (s := s) (a := a) hb
  rw [til_1 hb, til_2 hb, til_3, nI_add, nI_add]
  congr 1
  omega
theorem all_le (hI : sp_I s) (hb : b < 5) : sp_all s b ≤ 792 := by
  have h := hI.1 b
  have := h 0 hb (by decide); have := h 1 hb (by decide); have := h 2 hb (by decide); have := h 3 hb (by decide); have := h 4 hb (by decide); have := h 5 hb (by decide); have := h 6 hb (by decide); have := h 7 hb (by decide)
  unfold sp_all
  omega
theorem F_all_le (hI : sp_I s) (hb : b < 5) : sp_all (pp_F s b a) b ≤ sp_all s b := by
  have := F_cons (s := s) (a := a) hb
  omega
theorem til_3z (hI : sp_I s) (hb : b < 5) : (sp_til s b a 3 = 0) = (sp_all (pp_F s b a) b = 0) := by
  have h1 := all_le hI hb
  have h2 := F_all_le (a := a) hI hb
  rw [til_3, e_eq0 (by omega)]
/-- the angle that clears -/
theorem clr_spec (n : Nat) : n ≤ 91 → sp_clr s b n = -5 ∨ ∃ c, 91 - n ≤ c ∧ c ≤ 90 ∧ sp_clr s b n = nI c ∧ sp_til s b c 3 = 0 ∧ (c = 91 - n ∨ ¬ sp_til s b (c - 1) 3 = 0) := by
  induction n with
  | zero => intro _; exact Or.inl rfl
  | succ n ih =>
    intro hn
    rw [sp_clr]
    by_cases c0 : sp_til s b (90 - n) 3 = 0
    · rw [if_pos c0]
      exact Or.inr ⟨90 - n, by omega, by omega, rfl, c0, Or.inl (by omega)⟩
    · rw [if_neg c0]
      rcases ih (by omega) with h | ⟨c, h1, h2, h3, h4, h5⟩
      · exact Or.inl h
      · refine Or.inr ⟨c, by omega, h2, h3, h4, Or.inr ?_⟩
        rcases h5 with h5 | h5
        · rw [show c - 1 = 90 - n by omega]; exact c0
        · exact h5
theorem clr_none (hI : sp_I s) (hb : b < 5) (h0 : sp_all s b = 0) : sp_clr s b 91 = nI 0 := by
  have e : sp_til s b (90 - 90) 3 = 0 := by
    rw [til_3z hI hb]
    have := F_all_le (a := 90 - 90) hI hb
    omega
  rw [sp_clr, if_pos e]
theorem heaps_none (h0 : sp_all s b = 0) : sp_heaps s b = 0 := by
  have h : ∀ j, j < 32 → s (48 + 32 * b + j) = 0 := fun j hj => by
    have := acc_ge (fun j => s (48 + 32 * b + j)) 32 hj
    rw [← all_acc, h0] at this
    exact Nat.le_zero.mp this
  unfold sp_heaps
  have e := sp_acc_c (f := fun j => if 0 < s (48 + 32 * b + j) then 1 else 0) (g := fun _ => 0) 32 (fun j hj => by rw [h j hj, if_neg (by omega)])
  rw [e]
  rfl
/-- when a board comes to rest -/
theorem rests_0 (hb : b < 5) : an_rests s (nI b) = bif sp_rb (sp_settle b 300 s).1 b then nI (sp_settle b 300 s).2 else -5 := by
  unfold an_rests
  rw [if_neg (e_ok (by omega) (by decide)), sp_n_nI (by omega)]
theorem rests_z (hb : b < 5) : (an_rests s (nI b) = 0) = (sp_rb s b = true) := by
  rw [rests_0 hb]
  have e : sp_settle b 300 s = if sp_rb s b = true then (s, 0) else ((sp_settle b 299 (sp_tick s b)).1, (sp_settle b 299 (sp_tick s b)).2 + 1) := rfl
  rw [e]
  cases hr : sp_rb s b with
  | true =>
    rw [if_pos rfl]
    dsimp only
    rw [hr]
    decide
  | false =>
    rw [if_neg Bool.false_ne_true]
    dsimp only
    have := sp_settle_le b 299 (sp_tick s b)
    cases sp_rb (sp_settle b 299 (sp_tick s b)).1 b with
    | true =>
      rw [cond_true, e_eq0 (by omega)]
      simp
    | false =>
      rw [cond_false]
      decide
theorem rests_v (hb : b < 5) (hm : pp_m s b a ≠ 300) : an_rests (pp_v s b a) (nI b) = nI (pp_m s b a) := by
  have := pp_mle (s := s) (b := b) (a := a)
  rw [rests_0 hb, settle_rb b 300 (pp_v s b a) (by unfold pp_m at *; omega)]
  rfl
/-- passing what it takes -/
theorem pass_v (hb : b < 5) (hm : pp_m s b a < 300) : sp_pass (pp_v s b a) (pp_m s b a) (18 + b) = pp_F s b a (18 + b) ∧ sp_pass (pp_v s b a) (pp_m s b a) (23 + b) = pp_F s b a (23 + b) ∧ sp_all (sp_pass (pp_v s b a) (pp_m s b a)) b = sp_all (pp_F s b a) b ∧ sp_rb (sp_pass (pp_v s b a) (pp_m s b a)) b = true := by
  have h := pass_ag (s := pp_v s b a) (n := pp_m s b a) hb
  rw [← F_t1] at h
  refine ⟨ag_loc h (by unfold sp_loc; omega), ag_loc h (by unfold sp_loc; omega), all_c (fun j h1 h2 => ag_loc h (by unfold sp_loc; omega)), ?_⟩
  rw [ag_rb h]
  exact settle_rb b 300 _ hm
theorem pass_v1 (hb : b < 5) (hm : 0 < pp_m s b a) : sp_rb (sp_pass (pp_v s b a) (pp_m s b a - 1)) b = false := by
  rw [ag_rb (pass_ag hb)]
  exact settle_no b 300 (pp_v s b a) (pp_m s b a - 1) (by unfold pp_m at *; omega)
theorem pass_mono {n c : Nat} (hc : c < 5) : s (18 + c) ≤ sp_pass s n (18 + c) := by
  rw [ag_loc (pass_ag (s := s) (n := n) hc) (show sp_loc c (18 + c) by unfold sp_loc; omega)]
  exact (R_t1 hc n s).2.1
theorem pass_fell {n : Nat} (hb : b < 5) : pp_L s + (sp_pass s n (18 + b) - s (18 + b)) ≤ pp_L (sp_pass s n) := by
  have h0 := pass_mono (s := s) (n := n) (c := 0) (by decide)
  have h1 := pass_mono (s := s) (n := n) (c := 1) (by decide)
  have h2 := pass_mono (s := s) (n := n) (c := 2) (by decide)
  have h3 := pass_mono (s := s) (n := n) (c := 3) (by decide)
  have h4 := pass_mono (s := s) (n := n) (c := 4) (by decide)
  simp only [Nat.reduceAdd] at h0 h1 h2 h3 h4
  unfold pp_L
  rcases (by omega : b = 0 ∨ b = 1 ∨ b = 2 ∨ b = 3 ∨ b = 4) with rfl | rfl | rfl | rfl | rfl <;> simp only [Nat.reduceAdd] <;> omega
/-- what weighs: the least, the most -/
theorem div_succ {i w : Nat} (hw : 0 < w) (h : ¬ (i + 1) % w = 0) : (i + 1) / w = i / w := by
  have e := Nat.div_add_mod (i + 1) w
  have hl := Nat.mod_lt (i + 1) hw
  generalize (i + 1) / w = q at *
  generalize (i + 1) % w = r at *
  have e2 : i = w * q + (r - 1) := by omega
  rw [e2, Nat.mul_add_div hw, Nat.div_eq_of_lt (by omega)]
  rfl
def pp_w (s : Nat → Nat) (k a i : Nat) : Prop := s (5 + k) + i / s 2 = a
theorem wg_least (k a n : Nat) (hn : n ≤ 99) : (sp_wg s k a (nI 0) n = -5 ∧ ∀ i, 1 ≤ i → i ≤ n → ¬ pp_w s k a i) ∨ ∃ i, 1 ≤ i ∧ i ≤ n ∧ sp_wg s k a (nI 0) n = nI i ∧ pp_w s k a i ∧ ∀ j, 1 ≤ j → j < i → ¬ pp_w s k a j := by
  induction n with
  | zero => exact Or.inl ⟨rfl, fun i h1 h2 => by omega⟩
  | succ n ih =>
    rw [sp_wg]
    rcases ih (by omega) with ⟨h1, h2⟩ | ⟨i, h1, h2, h3, h4, h5⟩
    · by_cases c : pp_w s k a (n + 1)
      · rw [if_pos ⟨c, Or.inr h1⟩]
        exact Or.inr ⟨n + 1, by omega, by omega, rfl, c, fun j j1 j2 => h2 j j1 (by omega)⟩
      · rw [if_neg (fun q => c q.1)]
        refine Or.inl ⟨h1, fun i i1 i2 => ?_⟩
        by_cases e : i = n + 1
        · rw [e]; exact c
        · exact h2 i i1 (by omega)
    · have ne : ¬ nI i = -5 := fun q => by
        have : 0 ≤ nI i := by rw [e_0le (by omega)]; trivial
        rw [q] at this
        exact absurd this (by decide)
      rw [if_neg (fun q => q.2.elim (fun q => q (by decide)) (fun q => by rw [h3] at q; exact ne q))]
      exact Or.inr ⟨i, h1, by omega, h3, h4, h5⟩
theorem wg_most (k a n : Nat) : (sp_wg s k a (nI 1) n = -5 ∧ ∀ i, 1 ≤ i → i ≤ n → ¬ pp_w s k a i) ∨ ∃ i, 1 ≤ i ∧ i ≤ n ∧ sp_wg s k a (nI 1) n = nI i ∧ pp_w s k a i ∧ ∀ j, i < j → j ≤ n → ¬ pp_w s k a j := by
  induction n with
  | zero => exact Or.inl ⟨rfl, fun i h1 h2 => by omega⟩
  | succ n ih =>
    rw [sp_wg]
    by_cases c : pp_w s k a (n + 1)
    · rw [if_pos ⟨c, Or.inl (by decide)⟩]
      exact Or.inr ⟨n + 1, by omega, by omega, rfl, c, fun j j1 j2 => by omega⟩
    · rw [if_neg (fun q => c q.1)]
      rcases ih with ⟨h1, h2⟩ | ⟨i, h1, h2, h3, h4, h5⟩
      · refine Or.inl ⟨h1, fun i i1 i2 => ?_⟩
        by_cases e : i = n + 1
        · rw [e]; exact c
        · exact h2 i i1 (by omega)
      · refine Or.inr ⟨i, h1, by omega, h3, h4, fun j j1 j2 => ?_⟩
        by_cases e : j = n + 1
        · rw [e]; exact c
        · exact h5 j j1 (by omega)
/-- both together: none, or the least and the most -/
theorem wg_both (k a : Nat) (hI : sp_I s) : (sp_wg s k a (nI 0) 99 = -5 ∧ sp_wg s k a (nI 1) 99 = -5) ∨ ∃ i j, 1 ≤ i ∧ i ≤ j ∧ j ≤ 99 ∧ sp_wg s k a (nI 0) 99 = nI i ∧ sp_wg s k a (nI 1) 99 = nI j ∧ s (5 + k) + i / s 2 = a ∧ s (5 + k) + j / s 2 = a ∧ (j = 99 ∨ (j + 1) % s 2 = 0) ∧ (i = 1 ∨ i % s 2 = 0) := by
  have hw : 0 < s 2 := hI.2.1.2.1
  rcases wg_least (s := s) k a 99 (by decide) with ⟨h1, h2⟩ | ⟨i, h1, h2, h3, h4, h5⟩
  · rcases wg_most (s := s) k a 99 with ⟨g1, g2⟩ | ⟨j, g1, g2, g3, g4, g5⟩
    · exact Or.inl ⟨h1, g1⟩
    · exact absurd g4 (h2 j g1 g2)
  · rcases wg_most (s := s) k a 99 with ⟨g1, g2⟩ | ⟨j, g1, g2, g3, g4, g5⟩
    · exact absurd h4 (g2 i h1 h2)
    · refine Or.inr ⟨i, j, h1, ?_, g2, h3, g3, h4, g4, ?_, ?_⟩
      · by_cases c : i ≤ j
        · exact c
        · exact absurd h4 (g5 i (by omega) h2)
      · by_cases c : j = 99
        · exact Or.inl c
        · refine Or.inr ?_
          by_cases c2 : (j + 1) % s 2 = 0
          · exact c2
          · refine absurd ?_ (g5 (j + 1) (by omega) (by omega))
            unfold pp_w
            rw [div_succ hw c2]
            exact g4
      · by_cases c : i = 1
        · exact Or.inl c
        · refine Or.inr ?_
          by_cases c2 : i % s 2 = 0
          · exact c2
          · refine absurd ?_ (h5 (i - 1) (by omega) (by omega))
            unfold pp_w
            have e : i = i - 1 + 1 := by omega
            rw [e] at c2
            have q := div_succ hw c2
            rw [← q, ← e]
            exact h4
end PP
