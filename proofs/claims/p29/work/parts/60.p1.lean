/-! WHAT A SLIDE KEEPS: sums -/
theorem acc_out {s e : Nat → Nat} {x v : Nat} (n : Nat) (h : ∀ j, j < n → e j ≠ x) : sp_acc (fun j => va_up s x v (e j)) n = sp_acc (fun j => s (e j)) n :=
  sp_acc_c n (fun j hj => va_up_n (h j hj))
theorem acc_in {s e : Nat → Nat} {x v j0 : Nat} (n : Nat) (hj : j0 < n) (hx : e j0 = x) (hi : ∀ j, j < n → e j = x → j = j0) : sp_acc (fun j => va_up s x v (e j)) n + s x = sp_acc (fun j => s (e j)) n + v := by
  induction n with
  | zero => omega
  | succ n ih =>
    show sp_acc (fun j => va_up s x v (e j)) n + va_up s x v (e n) + s x = sp_acc (fun j => s (e j)) n + s (e n) + v
    by_cases c : j0 = n
    · subst c
      rw [acc_out j0 (fun j hj q => by have := hi j (by omega) q; omega), hx, va_up_s]
      omega
    · have h1 := ih (by omega) (fun j hj q => hi j (by omega) q)
      rw [va_up_n (fun q => c (hi n (by omega) q).symm)]
      omega
theorem acc_add (f : Nat → Nat) (a : Nat) (n : Nat) : sp_acc f (a + n) = sp_acc f a + sp_acc (fun j => f (a + j)) n := by
  induction n with
  | zero => rfl
  | succ n ih =>
    show sp_acc f (a + n) + f (a + n) = _
    rw [ih]
    show _ = sp_acc f a + (sp_acc (fun j => f (a + j)) n + f (a + n))
    omega
theorem acc_ge (f : Nat → Nat) (n : Nat) {j : Nat} (hj : j < n) : f j ≤ sp_acc f n := by
  induction n with
  | zero => omega
  | succ n ih =>
    show f j ≤ sp_acc f n + f n
    by_cases c : j = n
    · rw [c]; omega
    · have := ih (by omega); omega
theorem acc_mono {f g : Nat → Nat} (n : Nat) (h : ∀ j, j < n → f j ≤ g j) : sp_acc f n ≤ sp_acc g n := by
  induction n with
  | zero => exact Nat.le_refl _
  | succ n ih =>
    have h1 := ih (fun j hj => h j (by omega))
    have h2 := h n (by omega)
    show sp_acc f n + f n ≤ sp_acc g n + g n
    omega
/-- all grains on a board, as one sum -/
theorem all_acc (s : Nat → Nat) (b : Nat) : sp_all s b = sp_acc (fun j => s (48 + 32 * b + j)) 32 := by
  simp only [sp_all, sp_on, sp_acc, Nat.zero_add, Nat.add_zero, Nat.add_assoc, Nat.reduceAdd, Nat.reduceMul, Nat.mul_zero]
theorem pan_acc (s : Nat → Nat) (b : Nat) : sp_pan s b = sp_acc (fun j => s (28 + 4 * b + j)) 4 := by
  simp only [sp_pan, sp_acc, Nat.zero_add, Nat.add_zero]
/-- heaps of a kind, pans of a kind -/
def pp_G (s : Nat → Nat) (k : Nat) : Nat := sp_acc (fun j => s (48 + k + 4 * j)) 40
def pp_P (s : Nat → Nat) (k : Nat) : Nat := sp_acc (fun j => s (28 + k + 4 * j)) 5
def pp_A (s : Nat → Nat) : Nat := sp_all s 0 + sp_all s 1 + sp_all s 2 + sp_all s 3 + sp_all s 4
def pp_N (s : Nat → Nat) : Nat := sp_pan s 0 + sp_pan s 1 + sp_pan s 2 + sp_pan s 3 + sp_pan s 4
def pp_U (s : Nat → Nat) : Nat := s 23 + s 24 + s 25 + s 26 + s 27
def pp_L (s : Nat → Nat) : Nat := s 18 + s 19 + s 20 + s 21 + s 22
theorem A_acc (s : Nat → Nat) : sp_acc (fun j => s (48 + j)) 160 = pp_A s := by
  have e : sp_acc (fun j => s (48 + j)) 160 = sp_acc (fun j => s (48 + j)) (32 + 32 + 32 + 32 + 32) := rfl
  unfold pp_A
  rw [e, acc_add, acc_add, acc_add, acc_add]
  simp only [all_acc]
  have c : ∀ a b, 48 + a = b → ∀ n, sp_acc (fun j => s (48 + (a + j))) n = sp_acc (fun j => s (b + j)) n := fun a b h n => sp_acc_c n (fun j _ => by rw [← h, Nat.add_assoc])
  rw [c (32 + 32 + 32 + 32) (48 + 32 * 4) rfl, c (32 + 32 + 32) (48 + 32 * 3) rfl, c (32 + 32) (48 + 32 * 2) rfl, c 32 (48 + 32 * 1) rfl]
theorem N_acc (s : Nat → Nat) : sp_acc (fun j => s (28 + j)) 20 = pp_N s := by
  simp only [pp_N, sp_pan, sp_acc, Nat.zero_add, Nat.add_zero, Nat.reduceAdd, Nat.reduceMul]
  omega
theorem U_acc (s : Nat → Nat) : sp_acc (fun j => s (23 + j)) 5 = pp_U s := by
  simp only [pp_U, sp_acc, Nat.zero_add, Nat.add_zero, Nat.reduceAdd]
theorem L_acc (s : Nat → Nat) : sp_fell s = pp_L s := by
  simp only [sp_fell, pp_L, sp_acc, Nat.zero_add, Nat.add_zero, Nat.reduceAdd]
/-- one slide on board b -/
def pp_R (b : Nat) (s s' : Nat → Nat) : Prop := sp_all s' b + s' (18 + b) + s' (23 + b) = sp_all s b + s (18 + b) + s (23 + b) ∧ s (18 + b) ≤ s' (18 + b) ∧ s (23 + b) ≤ s' (23 + b) ∧ s' (18 + b) + sp_pan s b = s (18 + b) + sp_pan s' b ∧ (∀ k, k < 4 → pp_G s' k + pp_P s' k ≤ pp_G s k + pp_P s k) ∧ ∀ j, ¬ sp_loc b j → s' j = s j
theorem pp_R.rf {b : Nat} {s : Nat → Nat} : pp_R b s s := ⟨rfl, Nat.le_refl _, Nat.le_refl _, rfl, fun _ _ => Nat.le_refl _, fun _ _ => rfl⟩
theorem pp_R.tr {b : Nat} {s s' t : Nat → Nat} (h : pp_R b s s') (h' : pp_R b s' t) : pp_R b s t := by
  obtain ⟨a1, a2, a3, a4, a5, a6⟩ := h
  obtain ⟨b1, b2, b3, b4, b5, b6⟩ := h'
  exact ⟨by omega, by omega, by omega, by omega, fun k hk => Nat.le_trans (b5 k hk) (a5 k hk), fun j hj => (b6 j hj).trans (a6 j hj)⟩
theorem G_out {s : Nat → Nat} {x v k : Nat} (h : x < 48 + k ∨ 48 + k + 4 * 40 ≤ x ∨ ¬ (x - k) % 4 = 0) : pp_G (va_up s x v) k = pp_G s k := acc_out 40 (fun j hj => by omega)
theorem P_out {s : Nat → Nat} {x v k : Nat} (h : x < 28 + k ∨ 28 + k + 4 * 5 ≤ x ∨ ¬ (x - k) % 4 = 0) : pp_P (va_up s x v) k = pp_P s k := acc_out 5 (fun j hj => by omega)
theorem G_in {s : Nat → Nat} {v k b c : Nat} (hb : b < 5) (hc : c < 8) : pp_G (va_up s (48 + 32 * b + 4 * c + k) v) k + s (48 + 32 * b + 4 * c + k) = pp_G s k + v := acc_in (e := fun j => 48 + k + 4 * j) (j0 := 8 * b + c) 40 (by omega) (by show 48 + k + 4 * (8 * b + c) = _; omega) (fun j hj q => by have q : 48 + k + 4 * j = _ := q; omega)
theorem P_in {s : Nat → Nat} {v k b : Nat} (hb : b < 5) : pp_P (va_up s (28 + 4 * b + k) v) k + s (28 + 4 * b + k) = pp_P s k + v := acc_in (e := fun j => 28 + k + 4 * j) (j0 := b) 5 (by omega) (by show 28 + k + 4 * b = _; omega) (fun j hj q => by have q : 28 + k + 4 * j = _ := q; omega)
theorem all_out {s : Nat → Nat} {x v b : Nat} (h : x < 48 + 32 * b ∨ 80 + 32 * b ≤ x) : sp_all (va_up s x v) b = sp_all s b := by
  rw [all_acc, all_acc]
  exact acc_out (e := fun j => 48 + 32 * b + j) 32 (fun j hj => by show 48 + 32 * b + j ≠ x; omega)
theorem all_in {s : Nat → Nat} {v b c k : Nat} (hc : c < 8) (hk : k < 4) : sp_all (va_up s (48 + 32 * b + 4 * c + k) v) b + s (48 + 32 * b + 4 * c + k) = sp_all s b + v := by
  rw [all_acc, all_acc]
  exact acc_in (e := fun j => 48 + 32 * b + j) (j0 := 4 * c + k) 32 (by omega) (by show 48 + 32 * b + (4 * c + k) = _; omega) (fun j hj q => by have q : 48 + 32 * b + j = _ := q; omega)
theorem pan_out {s : Nat → Nat} {x v b : Nat} (h : x < 28 + 4 * b ∨ 32 + 4 * b ≤ x) : sp_pan (va_up s x v) b = sp_pan s b := by
  unfold sp_pan
  rw [va_up_n (by omega), va_up_n (by omega), va_up_n (by omega), va_up_n (by omega)]
theorem pan_in {s : Nat → Nat} {v b k : Nat} (hk : k < 4) : sp_pan (va_up s (28 + 4 * b + k) v) b + s (28 + 4 * b + k) = sp_pan s b + v := by
  unfold sp_pan va_up
  rcases (by omega : k = 0 ∨ k = 1 ∨ k = 2 ∨ k = 3) with rfl | rfl | rfl | rfl <;> simp <;> omega
theorem R_sl {s : Nat → Nat} {b c k : Nat} (hb : b < 5) (hc : c < 8) (hk : k < 4) : pp_R b s (sp_sl s b c k) := by
  have hg := (sp_g_le s b c k).1
  have hu : sp_g s b c k / s 3 ≤ sp_g s b c k := Nat.div_le_self _ _
  refine ⟨?_, ?_, ?_, ?_, fun k' hk' => ?_, fun j hj => ?_⟩
  case refine_6 =>
    unfold sp_loc at hj
    exact sp_sl_n (by omega) (by omega) (fun _ => by omega) (fun _ => by omega)
  all_goals
    unfold sp_sl
    dsimp only
    generalize sp_g s b c k / s 3 = u at *
    generalize sp_g s b c k = g at *
    generalize hs1 : va_up s (48 + 32 * b + 4 * c + k) (s (48 + 32 * b + 4 * c + k) - g) = s1
    generalize hs2 : va_up s1 (23 + b) (s1 (23 + b) + u) = s2
    have d1 : s1 (23 + b) = s (23 + b) := by rw [← hs1]; exact va_up_n (by omega)
    have d2 : s2 (23 + b) = s (23 + b) + u := by rw [← hs2, va_up_s, d1]
    have f1 : s2 (18 + b) = s (18 + b) := by rw [← hs2, ← hs1, va_up_n (by omega), va_up_n (by omega)]
    have a1 : sp_all s2 b + g = sp_all s b := by
      have q := all_in (s := s) (v := s (48 + 32 * b + 4 * c + k) - g) (b := b) hc hk
      rw [hs1] at q
      rw [← hs2, all_out (by omega)]
      omega
    have p1 : sp_pan s2 b = sp_pan s b := by rw [← hs2, ← hs1, pan_out (by omega), pan_out (by omega)]
    by_cases c7 : c = 7
    · rw [if_pos c7]
      generalize hs3 : va_up s2 (28 + 4 * b + k) (s2 (28 + 4 * b + k) + (g - u)) = s3
      have d3 : va_up s3 (18 + b) (s3 (18 + b) + (g - u)) (23 + b) = s (23 + b) + u := by rw [va_up_n (by omega), ← hs3, va_up_n (by omega), d2]
      have f3 : va_up s3 (18 + b) (s3 (18 + b) + (g - u)) (18 + b) = s (18 + b) + (g - u) := by rw [va_up_s, ← hs3, va_up_n (by omega), f1]
      have a3 : sp_all (va_up s3 (18 + b) (s3 (18 + b) + (g - u))) b + g = sp_all s b := by rw [all_out (by omega), ← hs3, all_out (by omega)]; exact a1
      have p3 : sp_pan (va_up s3 (18 + b) (s3 (18 + b) + (g - u))) b = sp_pan s b + (g - u) := by
        rw [pan_out (by omega), ← hs3]
        have q := pan_in (s := s2) (v := s2 (28 + 4 * b + k) + (g - u)) (b := b) hk
        omega
      first
        | omega
        | (by_cases e : k' = k
           · subst e
             have g1 := G_in (s := s) (v := s (48 + 32 * b + 4 * c + k') - g) (k := k') hb hc
             rw [hs1] at g1
             have p2 := P_in (s := s2) (v := s2 (28 + 4 * b + k') + (g - u)) (k := k') hb
             rw [hs3] at p2
             have e1 : pp_G (va_up s3 (18 + b) (s3 (18 + b) + (g - u))) k' = pp_G s1 k' := by rw [G_out (by omega), ← hs3, G_out (by omega), ← hs2, G_out (by omega)]
             have e2 : pp_P s2 k' = pp_P s k' := by rw [← hs2, P_out (by omega), ← hs1, P_out (by omega)]
             have e3 : pp_P (va_up s3 (18 + b) (s3 (18 + b) + (g - u))) k' = pp_P s3 k' := P_out (by omega)
             omega
           · rw [G_out (by omega), P_out (by omega), ← hs3, G_out (by omega), P_out (by omega), ← hs2, G_out (by omega), P_out (by omega), ← hs1, G_out (by omega), P_out (by omega)]
             exact Nat.le_refl _)
    · rw [if_neg c7]
      generalize hs3 : va_up s2 (48 + 32 * b + 4 * (c + 1) + k) (s2 (48 + 32 * b + 4 * (c + 1) + k) + (g - u)) = s3
      have d3 : s3 (23 + b) = s (23 + b) + u := by rw [← hs3, va_up_n (by omega), d2]
      have f3 : s3 (18 + b) = s (18 + b) := by rw [← hs3, va_up_n (by omega), f1]
      have a3 : sp_all s3 b + u = sp_all s b := by
        have q := all_in (s := s2) (v := s2 (48 + 32 * b + 4 * (c + 1) + k) + (g - u)) (b := b) (show c + 1 < 8 by omega) hk
        rw [hs3] at q
        omega
      have p3 : sp_pan s3 b = sp_pan s b := by rw [← hs3, pan_out (by omega), p1]
      first
        | omega
        | (by_cases e : k' = k
           · subst e
             have g1 := G_in (s := s) (v := s (48 + 32 * b + 4 * c + k') - g) (k := k') hb hc
             rw [hs1] at g1
             have g2 := G_in (s := s2) (v := s2 (48 + 32 * b + 4 * (c + 1) + k') + (g - u)) (k := k') hb (show c + 1 < 8 by omega)
             rw [hs3] at g2
             have e1 : pp_G s2 k' = pp_G s1 k' := by rw [← hs2, G_out (by omega)]
             have e2 : pp_P s3 k' = pp_P s k' := by rw [← hs3, P_out (by omega), ← hs2, P_out (by omega), ← hs1, P_out (by omega)]
             omega
           · rw [← hs3, G_out (by omega), P_out (by omega), ← hs2, G_out (by omega), P_out (by omega), ← hs1, G_out (by omega), P_out (by omega)]
             exact Nat.le_refl _)
theorem R_slot {q : (Nat → Nat) × (Nat → Nat)} {b c t : Nat} (hb : b < 5) (hc : c < 8) (ht : t < 4) : pp_R b q.1 (sp_slot q b c t).1 := by
  unfold sp_slot
  split
  · exact R_sl hb hc (sp_kd_ok q.1 ht).1
  · exact pp_R.rf
theorem R_cell {q : (Nat → Nat) × (Nat → Nat)} {b c : Nat} (hb : b < 5) (hc : c < 8) : pp_R b q.1 (sp_cell q b c).1 :=
  (((R_slot hb hc (by decide)).tr (R_slot hb hc (by decide))).tr (R_slot hb hc (by decide))).tr (R_slot hb hc (by decide))
theorem R_down {b : Nat} (hb : b < 5) (n : Nat) : ∀ q : (Nat → Nat) × (Nat → Nat), n ≤ 8 → pp_R b q.1 (sp_down b n q).1 := by
  induction n with
  | zero => intro q _; exact pp_R.rf
  | succ n ih => intro q hn; exact (R_cell hb (by omega)).tr (ih _ (by omega))
theorem R_of {b : Nat} {s s' t : Nat → Nat} (h : pp_R b s s') (hb : b < 5) (e1 : ∀ j, j < 208 → t j = s' j) (e2 : ∀ j, ¬ sp_loc b j → t j = s j) : pp_R b s t := by
  obtain ⟨a1, a2, a3, a4, a5, a6⟩ := h
  have eA : sp_all t b = sp_all s' b := by rw [all_acc, all_acc]; exact sp_acc_c 32 (fun j hj => e1 _ (by omega))
  have eP : sp_pan t b = sp_pan s' b := by rw [pan_acc, pan_acc]; exact sp_acc_c 4 (fun j hj => e1 _ (by omega))
  refine ⟨by rw [eA, e1 _ (by omega), e1 _ (by omega)]; exact a1, by rw [e1 _ (by omega)]; exact a2, by rw [e1 _ (by omega)]; exact a3, by rw [eP, e1 _ (by omega)]; exact a4, fun k hk => ?_, e2⟩
  have g1 : pp_G t k = pp_G s' k := sp_acc_c 40 (fun j hj => e1 _ (by omega))
  have g2 : pp_P t k = pp_P s' k := sp_acc_c 5 (fun j hj => e1 _ (by omega))
  rw [g1, g2]; exact a5 k hk
theorem R_tick {s : Nat → Nat} {b : Nat} (hb : b < 5) : pp_R b s (sp_tick s b) := by
  refine R_of (R_down hb 8 (s, fun _ => 0) (by decide)) hb (fun j hj => ?_) (fun j hj => sep_tick hj)
  unfold sp_tick sp_mv
  rw [if_neg (by omega)]
theorem R_t1 {b : Nat} (hb : b < 5) (n : Nat) : ∀ s, pp_R b s (sp_t1 b n s) := by
  induction n with
  | zero => intro s; exact pp_R.rf
  | succ n ih => intro s; exact (R_tick hb).tr (ih _)
