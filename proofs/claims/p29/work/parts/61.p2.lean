/-! WHAT EVERY STATE KEEPS -/
def pp_V (s : Nat → Nat) : Prop := (∀ k, k < 4 → pp_G s k + pp_P s k ≤ s (9 + k)) ∧ pp_A s + pp_N s + pp_U s + s 4 = s 9 + s 10 + s 11 + s 12 ∧ pp_L s = pp_N s + s 4 ∧ ∀ b, b < 5 → sp_pan s b ≤ s (18 + b)
def pp_T (T : Nat) (s : Nat → Nat) : Prop := sp_W s ∧ pp_V s ∧ s 0 ≤ 9 * T ∧ ∀ k, k < 4 → s (9 + k) ≤ 99 * T
theorem all_c {s s' : Nat → Nat} {b : Nat} (e : ∀ j, 48 + 32 * b ≤ j → j < 80 + 32 * b → s' j = s j) : sp_all s' b = sp_all s b := by
  rw [all_acc, all_acc]
  exact sp_acc_c 32 (fun j hj => e _ (by omega) (by omega))
theorem pan_c {s s' : Nat → Nat} {b : Nat} (e : ∀ j, 28 + 4 * b ≤ j → j < 32 + 4 * b → s' j = s j) : sp_pan s' b = sp_pan s b := by
  unfold sp_pan
  rw [e _ (by omega) (by omega), e _ (by omega) (by omega), e _ (by omega) (by omega), e _ (by omega) (by omega)]
theorem G_c {s s' : Nat → Nat} {k : Nat} (hk : k < 4) (e : ∀ j, 48 ≤ j → j < 208 → s' j = s j) : pp_G s' k = pp_G s k := sp_acc_c 40 (fun j hj => e _ (by omega) (by omega))
theorem P_c {s s' : Nat → Nat} {k : Nat} (hk : k < 4) (e : ∀ j, 28 ≤ j → j < 48 → s' j = s j) : pp_P s' k = pp_P s k := sp_acc_c 5 (fun j hj => e _ (by omega) (by omega))
theorem A_c {s s' : Nat → Nat} (e : ∀ j, 48 ≤ j → j < 208 → s' j = s j) : pp_A s' = pp_A s := by
  unfold pp_A
  rw [all_c (b := 0) (fun j h1 h2 => e j (by omega) (by omega)), all_c (b := 1) (fun j h1 h2 => e j (by omega) (by omega)), all_c (b := 2) (fun j h1 h2 => e j (by omega) (by omega)), all_c (b := 3) (fun j h1 h2 => e j (by omega) (by omega)), all_c (b := 4) (fun j h1 h2 => e j (by omega) (by omega))]
theorem N_c {s s' : Nat → Nat} (e : ∀ j, 28 ≤ j → j < 48 → s' j = s j) : pp_N s' = pp_N s := by
  unfold pp_N
  rw [pan_c (b := 0) (fun j h1 h2 => e j (by omega) (by omega)), pan_c (b := 1) (fun j h1 h2 => e j (by omega) (by omega)), pan_c (b := 2) (fun j h1 h2 => e j (by omega) (by omega)), pan_c (b := 3) (fun j h1 h2 => e j (by omega) (by omega)), pan_c (b := 4) (fun j h1 h2 => e j (by omega) (by omega))]
theorem V_of {s s' : Nat → Nat} (hV : pp_V s) (e : ∀ j, (j = 4 ∨ (9 ≤ j ∧ j < 13) ∨ (18 ≤ j ∧ j < 208)) → s' j = s j) : pp_V s' := by
  obtain ⟨v1, v2, v3, v4⟩ := hV
  have eA : pp_A s' = pp_A s := A_c (fun j h1 h2 => e j (by omega))
  have eN : pp_N s' = pp_N s := N_c (fun j h1 h2 => e j (by omega))
  refine ⟨fun k hk => ?_, ?_, ?_, fun b hb => ?_⟩
  · rw [G_c hk (fun j h1 h2 => e j (by omega)), P_c hk (fun j h1 h2 => e j (by omega)), e _ (by omega)]
    exact v1 k hk
  · rw [eA, eN]
    unfold pp_U at v2 ⊢
    rw [e 23 (by omega), e 24 (by omega), e 25 (by omega), e 26 (by omega), e 27 (by omega), e 4 (by omega), e 9 (by omega), e 10 (by omega), e 11 (by omega), e 12 (by omega)]
    exact v2
  · rw [eN]
    unfold pp_L at v3 ⊢
    rw [e 18 (by omega), e 19 (by omega), e 20 (by omega), e 21 (by omega), e 22 (by omega), e 4 (by omega)]
    exact v3
  · rw [pan_c (fun j h1 h2 => e j (by omega)), e _ (by omega)]
    exact v4 b hb
theorem R_ne {b c : Nat} {s s' : Nat → Nat} (h : pp_R b s s') (hb : b < 5) (hc : c < 5) (hn : c ≠ b) : sp_all s' c = sp_all s c ∧ sp_pan s' c = sp_pan s c ∧ s' (18 + c) = s (18 + c) ∧ s' (23 + c) = s (23 + c) := by
  have e := h.2.2.2.2.2
  unfold sp_loc at e
  exact ⟨all_c (fun j h1 h2 => e j (by omega)), pan_c (fun j h1 h2 => e j (by omega)), e _ (by omega), e _ (by omega)⟩
theorem V_R {b : Nat} {s s' : Nat → Nat} (hR : pp_R b s s') (hb : b < 5) (hV : pp_V s) : pp_V s' := by
  obtain ⟨v1, v2, v3, v4⟩ := hV
  obtain ⟨r1, r2, r3, r4, r5, r6⟩ := id hR
  have lo : ∀ j, j < 13 → s' j = s j := fun j hj => r6 j (by unfold sp_loc; omega)
  have p4 := v4 b hb
  have ne := fun {c : Nat} (hc : c < 5) (hn : c ≠ b) => R_ne hR hb hc hn
  refine ⟨fun k hk => ?_, ?_, ?_, fun c hc => ?_⟩
  · rw [lo _ (by omega)]
    exact Nat.le_trans (r5 k hk) (v1 k hk)
  · rw [lo 4 (by decide), lo 9 (by decide), lo 10 (by decide), lo 11 (by decide), lo 12 (by decide), ← v2]
    unfold pp_A pp_N pp_U
    rcases (by omega : b = 0 ∨ b = 1 ∨ b = 2 ∨ b = 3 ∨ b = 4) with rfl | rfl | rfl | rfl | rfl
    · have n1 := ne (c := 1) (by decide) (by decide); have n2 := ne (c := 2) (by decide) (by decide); have n3 := ne (c := 3) (by decide) (by decide); have n4 := ne (c := 4) (by decide) (by decide)
      simp only [Nat.reduceAdd] at *
      omega
    · have n1 := ne (c := 0) (by decide) (by decide); have n2 := ne (c := 2) (by decide) (by decide); have n3 := ne (c := 3) (by decide) (by decide); have n4 := ne (c := 4) (by decide) (by decide)
      simp only [Nat.reduceAdd] at *
      omega
    · have n1 := ne (c := 0) (by decide) (by decide); have n2 := ne (c := 1) (by decide) (by decide); have n3 := ne (c := 3) (by decide) (by decide); have n4 := ne (c := 4) (by decide) (by decide)
      simp only [Nat.reduceAdd] at *
      omega
    · have n1 := ne (c := 0) (by decide) (by decide); have n2 := ne (c := 1) (by decide) (by decide); have n3 := ne (c := 2) (by decide) (by decide); have n4 := ne (c := 4) (by decide) (by decide)
      simp only [Nat.reduceAdd] at *
      omega
    · have n1 := ne (c := 0) (by decide) (by decide); have n2 := ne (c := 1) (by decide) (by decide); have n3 := ne (c := 2) (by decide) (by decide); have n4 := ne (c := 3) (by decide) (by decide)
      simp only [Nat.reduceAdd] at *
      omega
  · rw [lo 4 (by decide)]
    unfold pp_L pp_N at v3 ⊢
    rcases (by omega : b = 0 ∨ b = 1 ∨ b = 2 ∨ b = 3 ∨ b = 4) with rfl | rfl | rfl | rfl | rfl
    · have n1 := ne (c := 1) (by decide) (by decide); have n2 := ne (c := 2) (by decide) (by decide); have n3 := ne (c := 3) (by decide) (by decide); have n4 := ne (c := 4) (by decide) (by decide)
      simp only [Nat.reduceAdd] at *
      omega
    · have n1 := ne (c := 0) (by decide) (by decide); have n2 := ne (c := 2) (by decide) (by decide); have n3 := ne (c := 3) (by decide) (by decide); have n4 := ne (c := 4) (by decide) (by decide)
      simp only [Nat.reduceAdd] at *
      omega
    · have n1 := ne (c := 0) (by decide) (by decide); have n2 := ne (c := 1) (by decide) (by decide); have n3 := ne (c := 3) (by decide) (by decide); have n4 := ne (c := 4) (by decide) (by decide)
      simp only [Nat.reduceAdd] at *
      omega
    · have n1 := ne (c := 0) (by decide) (by decide); have n2 := ne (c := 1) (by decide) (by decide); have n3 := ne (c := 2) (by decide) (by decide); have n4 := ne (c := 4) (by decide) (by decide)
      simp only [Nat.reduceAdd] at *
      omega
    · have n1 := ne (c := 0) (by decide) (by decide); have n2 := ne (c := 1) (by decide) (by decide); have n3 := ne (c := 2) (by decide) (by decide); have n4 := ne (c := 3) (by decide) (by decide)
      simp only [Nat.reduceAdd] at *
      omega
  · by_cases e : c = b
    · subst e
      omega
    · obtain ⟨_, n2, n3, _⟩ := ne hc e
      rw [n2, n3]
      exact v4 c hc
theorem V_tk (n : Nat) : ∀ i s, pp_V s → pp_V (sp_tk i n s) := by
  induction n with
  | zero => intro i s h; exact h
  | succ n ih => intro i s h; exact ih _ _ (V_R (R_tick (Nat.mod_lt _ (by decide))) (Nat.mod_lt _ (by decide)) h)
theorem V_pass {s : Nat → Nat} (hV : pp_V s) (n : Nat) : pp_V (sp_pass s n) := V_of (V_tk _ _ _ hV) (fun j hj => va_up_n (by omega))
theorem pass_lo {s : Nat → Nat} {n j : Nat} (h0 : j ≠ 0) (hj : j < 13) : sp_pass s n j = s j := by
  unfold sp_pass
  rw [va_up_n h0]
  exact sep_tk (fun i hi => by unfold sp_loc; omega) _ _ _
theorem pass_0 {s : Nat → Nat} {n : Nat} : sp_pass s n 0 = s 0 + n := by
  unfold sp_pass
  rw [va_up_s, sep_tk (fun i hi => by unfold sp_loc; omega)]
theorem V_pour {s : Nat → Nat} (hV : pp_V s) {b c k n : Nat} (hb : b < 5) (hc : c < 8) (hk : k < 4) : pp_V (sp_pour s b c k n) := by
  obtain ⟨v1, v2, v3, v4⟩ := hV
  have hi : ∀ j, j ≠ 48 + 32 * b + 4 * c + k → j ≠ 9 + k → sp_pour s b c k n j = s j := fun j h1 h2 => by unfold sp_pour; rw [va_up_n h2, va_up_n h1]
  have e9 : sp_pour s b c k n (9 + k) = s (9 + k) + n := by unfold sp_pour; rw [va_up_s]
  have eN : pp_N (sp_pour s b c k n) = pp_N s := N_c (fun j h1 h2 => hi j (by omega) (by omega))
  have eb : sp_all (sp_pour s b c k n) b = sp_all s b + n := by
    unfold sp_pour
    rw [all_out (by omega)]
    have q := all_in (s := s) (v := s (48 + 32 * b + 4 * c + k) + n) (b := b) hc hk
    omega
  have en : ∀ b', b' ≠ b → sp_all (sp_pour s b c k n) b' = sp_all s b' := fun b' hn => all_c (fun j h1 h2 => hi j (by omega) (by omega))
  have eA : pp_A (sp_pour s b c k n) = pp_A s + n := by
    unfold pp_A
    rcases (by omega : b = 0 ∨ b = 1 ∨ b = 2 ∨ b = 3 ∨ b = 4) with rfl | rfl | rfl | rfl | rfl
    · rw [eb, en 1 (by decide), en 2 (by decide), en 3 (by decide), en 4 (by decide)]; omega
    · rw [eb, en 0 (by decide), en 2 (by decide), en 3 (by decide), en 4 (by decide)]; omega
    · rw [eb, en 0 (by decide), en 1 (by decide), en 3 (by decide), en 4 (by decide)]; omega
    · rw [eb, en 0 (by decide), en 1 (by decide), en 2 (by decide), en 4 (by decide)]; omega
    · rw [eb, en 0 (by decide), en 1 (by decide), en 2 (by decide), en 3 (by decide)]; omega
  refine ⟨fun k' hk' => ?_, ?_, ?_, fun c' hc' => ?_⟩
  · rw [P_c hk' (fun j h1 h2 => hi j (by omega) (by omega))]
    have q := v1 k' hk'
    by_cases e : k' = k
    · subst e
      rw [e9]
      have g : pp_G (sp_pour s b c k' n) k' = pp_G s k' + n := by
        unfold sp_pour
        rw [G_out (by omega)]
        have g1 := G_in (s := s) (v := s (48 + 32 * b + 4 * c + k') + n) (k := k') hb hc
        omega
      omega
    · rw [hi (9 + k') (by omega) (by omega)]
      have g : pp_G (sp_pour s b c k n) k' = pp_G s k' := by
        unfold sp_pour
        rw [G_out (by omega), G_out (by omega)]
      omega
  · rw [eA, eN]
    unfold pp_U at v2 ⊢
    rw [hi 23 (by omega) (by omega), hi 24 (by omega) (by omega), hi 25 (by omega) (by omega), hi 26 (by omega) (by omega), hi 27 (by omega) (by omega), hi 4 (by omega) (by omega)]
    rcases (by omega : k = 0 ∨ k = 1 ∨ k = 2 ∨ k = 3) with rfl | rfl | rfl | rfl
    · simp only [Nat.add_zero] at e9
      rw [e9, hi 10 (by omega) (by omega), hi 11 (by omega) (by omega), hi 12 (by omega) (by omega)]; omega
    · simp only [Nat.reduceAdd] at e9
      rw [e9, hi 9 (by omega) (by omega), hi 11 (by omega) (by omega), hi 12 (by omega) (by omega)]; omega
    · simp only [Nat.reduceAdd] at e9
      rw [e9, hi 9 (by omega) (by omega), hi 10 (by omega) (by omega), hi 12 (by omega) (by omega)]; omega
    · simp only [Nat.reduceAdd] at e9
      rw [e9, hi 9 (by omega) (by omega), hi 10 (by omega) (by omega), hi 11 (by omega) (by omega)]; omega
  · rw [eN]
    unfold pp_L at v3 ⊢
    rw [hi 18 (by omega) (by omega), hi 19 (by omega) (by omega), hi 20 (by omega) (by omega), hi 21 (by omega) (by omega), hi 22 (by omega) (by omega), hi 4 (by omega) (by omega)]
    exact v3
  · rw [pan_c (fun j h1 h2 => hi j (by omega) (by omega)), hi _ (by omega) (by omega)]
    exact v4 c' hc'
theorem V_empty {s : Nat → Nat} (hV : pp_V s) {b : Nat} (hb : b < 5) : pp_V (sp_empty s b) := by
  obtain ⟨v1, v2, v3, v4⟩ := hV
  have hi : ∀ j, ¬ (28 + 4 * b ≤ j ∧ j < 32 + 4 * b) → j ≠ 4 → sp_empty s b j = s j := fun j h1 h2 => by unfold sp_empty; rw [if_neg h1, if_neg h2]
  have e4 : sp_empty s b 4 = s 4 + sp_pan s b := by unfold sp_empty; rw [if_neg (by omega), if_pos rfl]
  have eb : sp_pan (sp_empty s b) b = 0 := by
    rw [sp_pan]
    unfold sp_empty
    rw [if_pos (by omega), if_pos (by omega), if_pos (by omega), if_pos (by omega)]
  have en : ∀ b', b' ≠ b → sp_pan (sp_empty s b) b' = sp_pan s b' := fun b' hn => pan_c (fun j h1 h2 => hi j (by omega) (by omega))
  have eA : pp_A (sp_empty s b) = pp_A s := A_c (fun j h1 h2 => hi j (by omega) (by omega))
  have eN : pp_N (sp_empty s b) + sp_pan s b = pp_N s := by
    unfold pp_N
    rcases (by omega : b = 0 ∨ b = 1 ∨ b = 2 ∨ b = 3 ∨ b = 4) with rfl | rfl | rfl | rfl | rfl
    · rw [eb, en 1 (by decide), en 2 (by decide), en 3 (by decide), en 4 (by decide)]; omega
    · rw [eb, en 0 (by decide), en 2 (by decide), en 3 (by decide), en 4 (by decide)]; omega
    · rw [eb, en 0 (by decide), en 1 (by decide), en 3 (by decide), en 4 (by decide)]; omega
    · rw [eb, en 0 (by decide), en 1 (by decide), en 2 (by decide), en 4 (by decide)]; omega
    · rw [eb, en 0 (by decide), en 1 (by decide), en 2 (by decide), en 3 (by decide)]; omega
  refine ⟨fun k hk => ?_, ?_, ?_, fun c hc => ?_⟩
  · rw [G_c hk (fun j h1 h2 => hi j (by omega) (by omega)), hi _ (by omega) (by omega)]
    have q : pp_P (sp_empty s b) k ≤ pp_P s k := acc_mono 5 (fun j hj => by
      unfold sp_empty
      split
      · exact Nat.zero_le _
      · split
        · omega
        · exact Nat.le_refl _)
    have := v1 k hk
    omega
  · unfold pp_U at v2 ⊢
    rw [eA, e4, hi 23 (by omega) (by omega), hi 24 (by omega) (by omega), hi 25 (by omega) (by omega), hi 26 (by omega) (by omega), hi 27 (by omega) (by omega), hi 9 (by omega) (by omega), hi 10 (by omega) (by omega), hi 11 (by omega) (by omega), hi 12 (by omega) (by omega)]
    omega
  · unfold pp_L at v3 ⊢
    rw [e4, hi 18 (by omega) (by omega), hi 19 (by omega) (by omega), hi 20 (by omega) (by omega), hi 21 (by omega) (by omega), hi 22 (by omega) (by omega)]
    omega
  · rw [hi _ (by omega) (by omega)]
    have := v4 c hc
    by_cases e : c = b
    · subst e; rw [eb]; omega
    · rw [en c e]; exact this
theorem n_le {x : Int32} {n : Nat} (hn : n < 2 ^ 31) (h : ¬ (x < nI 0 ∨ nI n < x)) : sp_n x ≤ n := by
  rcases tb_gd x hn with q | ⟨j, hj, rfl⟩
  · exact absurd q h
  · rw [sp_n_nI (by omega)]; exact hj
section TT
variable {T : Nat} {s s' : Nat → Nat}
theorem pp_T.le (hT : pp_T T s) {T' : Nat} (h : T ≤ T') : pp_T T' s := by
  obtain ⟨t1, t2, t3, t4⟩ := hT
  exact ⟨t1, t2, by omega, fun k hk => by have := t4 k hk; omega⟩
theorem pp_T.of (hT : pp_T T s) (hW : sp_W s') (e : ∀ j, (j = 0 ∨ j = 4 ∨ (9 ≤ j ∧ j < 13) ∨ (18 ≤ j ∧ j < 208)) → s' j = s j) : pp_T (T + 1) s' := by
  obtain ⟨t1, t2, t3, t4⟩ := hT
  exact ⟨hW, V_of t2 (fun j hj => e j (by omega)), by rw [e 0 (by omega)]; omega, fun k hk => by rw [e _ (by omega)]; have := t4 k hk; omega⟩
theorem T_tilt (hT : pp_T T s) (x y : Int32) : pp_T (T + 1) (ac_tilt s x y).2 := by
  refine hT.of (W_tilt hT.1 x y) (fun j hj => ?_)
  unfold ac_tilt
  split
  · rfl
  · rename_i hx
    have := n_le (by decide) hx
    split
    · rfl
    · split
      · rfl
      · exact va_up_n (by omega)
theorem T_grip (hT : pp_T T s) (x y : Int32) : pp_T (T + 1) (ac_grip s x y).2 := by
  refine hT.of (W_grip hT.1 x y) (fun j hj => ?_)
  unfold ac_grip
  split
  · rfl
  · rename_i hx
    have := n_le (by decide) hx
    split
    · rfl
    · split
      · rfl
      · exact va_up_n (by omega)
theorem T_set (hT : pp_T T s) (x y : Int32) : pp_T (T + 1) (ac_set s x y).2 := by
  refine hT.of (W_set hT.1 x y) (fun j hj => ?_)
  unfold ac_set
  generalize (if x = nI 0 then nI 30 else nI 99) = m
  split
  · rfl
  · rename_i hx
    have := n_le (by decide) hx
    split
    · rfl
    · split
      · rfl
      · exact va_up_n (by omega)
theorem T_jolt (hT : pp_T T s) (x : Int32) : pp_T (T + 1) (ac_jolt s x).2 := by
  refine hT.of (W_jolt hT.1 x) (fun j hj => ?_)
  unfold ac_jolt
  split
  · rfl
  · split
    · rfl
    · show sp_jolt s _ j = s j
      unfold sp_jolt
      rw [if_neg (by omega)]
theorem T_empty (hT : pp_T T s) (x : Int32) : pp_T (T + 1) (ac_empty s x).2 := by
  have hW := W_empty hT.1 x
  revert hW
  unfold ac_empty
  split
  · intro _; exact hT.le (by omega)
  · rename_i hx
    have hb := n_le (by decide) hx
    split
    · intro _; exact hT.le (by omega)
    · intro hW
      dsimp only at hW ⊢
      obtain ⟨t1, t2, t3, t4⟩ := hT
      have lo : ∀ j, j < 13 → j ≠ 4 → sp_empty s (sp_n x) j = s j := fun j h1 h2 => by unfold sp_empty; rw [if_neg (by omega), if_neg h2]
      exact ⟨hW, V_empty t2 (by omega), by rw [lo 0 (by omega) (by omega)]; omega, fun k hk => by rw [lo _ (by omega) (by omega)]; have := t4 k hk; omega⟩
theorem T_pour (hT : pp_T T s) (x y z w : Int32) : pp_T (T + 1) (ac_pour s x y z w).2 := by
  have hW := W_pour hT.1 x y z w
  revert hW
  unfold ac_pour
  split
  · intro _; exact hT.le (by omega)
  · rename_i hx
    have hb := n_le (by decide) (fun q => hx (Or.inl q))
    have hc := n_le (by decide) (fun q => hx (Or.inr (Or.inl q)))
    have hk := n_le (by decide) (fun q => hx (Or.inr (Or.inr q)))
    split
    · intro _; exact hT.le (by omega)
    · rename_i hw
      have hn : sp_n w ≤ 99 := by
        rcases tb_gd w (show 99 < 2 ^ 31 by decide) with q | ⟨j, hj, rfl⟩
        · rcases q with q | q
          · exact absurd (Or.inl (Int32.lt_trans q (by decide))) hw
          · exact absurd (Or.inr q) hw
        · rw [sp_n_nI (by omega)]; exact hj
      split
      · intro _; exact hT.le (by omega)
      · intro hW
        dsimp only at hW ⊢
        obtain ⟨t1, t2, t3, t4⟩ := hT
        refine ⟨hW, V_pour t2 (by omega) (by omega) (by omega), ?_, fun k' hk' => ?_⟩
        · unfold sp_pour; rw [va_up_n (by omega), va_up_n (by omega)]; omega
        · have := t4 k' hk'
          unfold sp_pour
          by_cases e : k' = sp_n z
          · rw [e, va_up_s, ← e]; omega
          · rw [va_up_n (by omega), va_up_n (by omega)]; omega
theorem T_pass (hT : pp_T T s) {n : Nat} (hn : n ≤ 9) : pp_T (T + 1) (ac_pass s (nI n)).2 := by
  have hW := W_pass hT.1 (nI n)
  revert hW
  unfold ac_pass
  split
  · intro _; exact hT.le (by omega)
  · split
    · intro _; exact hT.le (by omega)
    · intro hW
      dsimp only at hW ⊢
      rw [sp_n_nI (by omega)] at hW ⊢
      obtain ⟨t1, t2, t3, t4⟩ := hT
      exact ⟨hW, V_pass t2 n, by rw [pass_0]; omega, fun k hk => by rw [pass_lo (by omega) (by omega)]; have := t4 k hk; omega⟩
theorem T_0 : pp_T 0 sp_0 := by
  have z : ∀ j, 9 ≤ j → sp_0 j = 0 := fun j hj => sp_0_hi hj
  have zc : ∀ (e : Nat → Nat) (n : Nat), (∀ j, 9 ≤ e j) → sp_acc (fun j => sp_0 (e j)) n = 0 := by
    intro e n he
    induction n with
    | zero => rfl
    | succ n ih => show sp_acc _ n + sp_0 (e n) = 0; rw [ih, z _ (he n)]
  have zA : ∀ b, sp_all sp_0 b = 0 := fun b => by rw [all_acc]; exact zc _ 32 (fun j => by omega)
  have zP : ∀ b, sp_pan sp_0 b = 0 := fun b => by rw [pan_acc]; exact zc _ 4 (fun j => by omega)
  refine ⟨W_0, ⟨fun k hk => ?_, ?_, ?_, fun b hb => by rw [zP]; exact Nat.zero_le _⟩, by decide, fun k hk => by rw [z _ (by omega)]; omega⟩
  · have g1 : pp_G sp_0 k = 0 := zc _ 40 (fun j => by omega)
    have g2 : pp_P sp_0 k = 0 := zc _ 5 (fun j => by omega)
    rw [g1, g2]; exact Nat.zero_le _
  · unfold pp_A pp_N pp_U
    rw [zA, zA, zA, zA, zA, zP, zP, zP, zP, zP]
    decide
  · unfold pp_L pp_N
    rw [zP, zP, zP, zP, zP]
    decide
end TT
