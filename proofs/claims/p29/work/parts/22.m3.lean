/-! THE REFERENCE: sliding, a tick -/
theorem sp_on_out {s : Nat → Nat} {b c i x : Nat} (hi : i < 48 + 32 * b + 4 * c ∨ 48 + 32 * b + 4 * c + 4 ≤ i) : sp_on (va_up s i x) b c = sp_on s b c := by
  unfold sp_on
  rw [va_up_n (by omega), va_up_n (by omega), va_up_n (by omega), va_up_n (by omega)]
theorem sp_on_in {s : Nat → Nat} {b c k x : Nat} (hk : k < 4) : sp_on (va_up s (48 + 32 * b + 4 * c + k) x) b c + s (48 + 32 * b + 4 * c + k) = sp_on s b c + x := by
  unfold sp_on va_up
  rcases (by omega : k = 0 ∨ k = 1 ∨ k = 2 ∨ k = 3) with rfl | rfl | rfl | rfl <;> simp <;> omega
theorem sp_on_c {s s' : Nat → Nat} {b c : Nat} (h : ∀ k, k < 4 → s' (48 + 32 * b + 4 * c + k) = s (48 + 32 * b + 4 * c + k)) : sp_on s' b c = sp_on s b c := by
  unfold sp_on
  rw [h 0 (by decide), h 1 (by decide), h 2 (by decide), h 3 (by decide)]
theorem sp_g_le (s : Nat → Nat) (b c k : Nat) : sp_g s b c k ≤ s (48 + 32 * b + 4 * c + k) ∧ sp_g s b c k ≤ sp_room s b c := by
  unfold sp_g
  split <;> omega
/-- what a slide leaves as it was -/
theorem sp_sl_n {s : Nat → Nat} {b c k j : Nat} (h1 : j ≠ 48 + 32 * b + 4 * c + k) (h2 : j ≠ 23 + b) (h3 : c = 7 → j ≠ 28 + 4 * b + k ∧ j ≠ 18 + b) (h4 : c ≠ 7 → j ≠ 48 + 32 * b + 4 * (c + 1) + k) : sp_sl s b c k j = s j := by
  unfold sp_sl
  dsimp only
  split
  · rename_i h
    rw [va_up_n (h3 h).2, va_up_n (h3 h).1, va_up_n h2, va_up_n h1]
  · rename_i h
    rw [va_up_n (h4 h), va_up_n h2, va_up_n h1]
theorem sp_sl_on {s : Nat → Nat} {b c k b' c' : Nat} (hb : b < 5) (hc : c < 8) (hk : k < 4) (hb' : b' < 5) (hc' : c' < 8) : (b' = b ∧ c' = c → sp_on (sp_sl s b c k) b' c' + sp_g s b c k = sp_on s b' c') ∧ (b' = b ∧ c' = c + 1 → sp_on (sp_sl s b c k) b' c' = sp_on s b' c' + (sp_g s b c k - sp_g s b c k / s 3)) ∧ (¬ (b' = b ∧ (c' = c ∨ c' = c + 1)) → sp_on (sp_sl s b c k) b' c' = sp_on s b' c') := by
  have hg := (sp_g_le s b c k).1
  refine ⟨?_, ?_, ?_⟩
  · rintro ⟨rfl, rfl⟩
    unfold sp_sl
    dsimp only
    have e := sp_on_in (s := s) (b := b') (c := c') (x := s (48 + 32 * b' + 4 * c' + k) - sp_g s b' c' k) hk
    split
    · rw [sp_on_out (by omega), sp_on_out (by omega), sp_on_out (by omega)]
      omega
    · rw [sp_on_out (by omega), sp_on_out (by omega)]
      omega
  · rintro ⟨rfl, rfl⟩
    unfold sp_sl
    dsimp only
    rw [if_neg (by omega)]
    generalize hs2 : va_up (va_up s (48 + 32 * b' + 4 * c + k) (s (48 + 32 * b' + 4 * c + k) - sp_g s b' c k)) (23 + b') _ = s2
    have e := sp_on_in (s := s2) (b := b') (c := c + 1) (x := s2 (48 + 32 * b' + 4 * (c + 1) + k) + (sp_g s b' c k - sp_g s b' c k / s 3)) hk
    have e2 : sp_on s2 b' (c + 1) = sp_on s b' (c + 1) := by
      rw [← hs2, sp_on_out (by omega), sp_on_out (by omega)]
    omega
  · intro hn
    refine sp_on_c (fun j hj => sp_sl_n (by omega) (by omega) (fun h => by omega) (fun h => by omega))
theorem sp_I_sl {s : Nat → Nat} (hI : sp_I s) {b c k : Nat} (hb : b < 5) (hc : c < 8) (hk : k < 4) : sp_I (sp_sl s b c k) := by
  have low : ∀ j, j < 18 → sp_sl s b c k j = s j := fun j hj => sp_sl_n (by omega) (by omega) (fun h => by omega) (fun h => by omega)
  have hg := sp_g_le s b c k
  obtain ⟨i1, i2, i3, i4, i5⟩ := hI
  refine ⟨fun b' c' hb' hc' => ?_, ?_, fun j hj => ?_, fun j hj => ?_, fun j hj => ?_⟩
  · obtain ⟨e1, e2, e3⟩ := sp_sl_on (s := s) hb hc hk hb' hc'
    have q := i1 b' c' hb' hc'
    by_cases h1 : b' = b ∧ c' = c
    · have := e1 h1; omega
    · by_cases h2 : b' = b ∧ c' = c + 1
      · have e := e2 h2
        have hr : sp_room s b c = 99 - sp_on s b (c + 1) := by unfold sp_room; rw [if_neg (by omega)]
        obtain ⟨rfl, rfl⟩ := h2
        have hu := Nat.sub_le (sp_g s b' c k) (sp_g s b' c k / s 3)
        generalize sp_g s b' c k - sp_g s b' c k / s 3 = w at e hu
        omega
      · rw [e3 (by omega)]; exact q
  · rw [low 1 (by decide), low 2 (by decide), low 3 (by decide)]; exact i2
  · rw [low _ (by omega)]; exact i3 j hj
  · rw [low _ (by omega)]; exact i4 j hj
  · rw [sp_sl_n (by omega) (by omega) (fun h => by omega) (fun h => by omega)]; exact i5 j hj
def sp_slot (q : (Nat → Nat) × (Nat → Nat)) (b c t : Nat) : (Nat → Nat) × (Nat → Nat) := if sp_why q.1 b c (sp_kd q.1 t) = 0 then (sp_sl q.1 b c (sp_kd q.1 t), sp_cm q.1 q.2 b c (sp_kd q.1 t)) else q
def sp_cell (q : (Nat → Nat) × (Nat → Nat)) (b c : Nat) : (Nat → Nat) × (Nat → Nat) := sp_slot (sp_slot (sp_slot (sp_slot q b c 0) b c 1) b c 2) b c 3
def sp_down (b : Nat) : Nat → (Nat → Nat) × (Nat → Nat) → (Nat → Nat) × (Nat → Nat)
  | 0, q => q
  | n + 1, q => sp_down b n (sp_cell q b n)
def sp_mv (s : Nat → Nat) (b : Nat) (cm : Nat → Nat) : Nat → Nat := fun j => if 208 + 32 * b ≤ j ∧ j < 240 + 32 * b then cm (j - (208 + 32 * b)) else s j
def sp_tick (s : Nat → Nat) (b : Nat) : Nat → Nat := sp_mv (sp_down b 8 (s, fun _ => 0)).1 b (sp_down b 8 (s, fun _ => 0)).2
theorem sp_slot_I {q : (Nat → Nat) × (Nat → Nat)} (hI : sp_I q.1) {b c t : Nat} (hb : b < 5) (hc : c < 8) (ht : t < 4) : sp_I (sp_slot q b c t).1 := by
  unfold sp_slot
  split
  · exact sp_I_sl hI hb hc (sp_kd_ok q.1 ht).1
  · exact hI
theorem sp_slot_m {q : (Nat → Nat) × (Nat → Nat)} (hm : ∀ j, q.2 j ≤ 1) {b c t : Nat} : ∀ j, (sp_slot q b c t).2 j ≤ 1 := by
  intro j
  unfold sp_slot
  split
  · show sp_cm _ _ _ _ _ j ≤ 1
    unfold sp_cm
    split
    · exact hm j
    · unfold va_up
      split
      · split <;> decide
      · exact hm j
  · exact hm j
theorem sp_cell_I {q : (Nat → Nat) × (Nat → Nat)} (hI : sp_I q.1) {b c : Nat} (hb : b < 5) (hc : c < 8) : sp_I (sp_cell q b c).1 :=
  sp_slot_I (sp_slot_I (sp_slot_I (sp_slot_I hI hb hc (by decide)) hb hc (by decide)) hb hc (by decide)) hb hc (by decide)
theorem sp_cell_m {q : (Nat → Nat) × (Nat → Nat)} (hm : ∀ j, q.2 j ≤ 1) {b c : Nat} : ∀ j, (sp_cell q b c).2 j ≤ 1 := sp_slot_m (sp_slot_m (sp_slot_m (sp_slot_m hm)))
theorem sp_down_I {b : Nat} (hb : b < 5) (n : Nat) : ∀ q : (Nat → Nat) × (Nat → Nat), n ≤ 8 → sp_I q.1 → (∀ j, q.2 j ≤ 1) → sp_I (sp_down b n q).1 ∧ ∀ j, (sp_down b n q).2 j ≤ 1 := by
  induction n with
  | zero => intro q _ h1 h2; exact ⟨h1, h2⟩
  | succ n ih => intro q hn h1 h2; exact ih _ (by omega) (sp_cell_I h1 hb (by omega)) (sp_cell_m h2)
theorem sp_I_mv {s : Nat → Nat} (hI : sp_I s) {b : Nat} {cm : Nat → Nat} (hb : b < 5) (hm : ∀ j, cm j ≤ 1) : sp_I (sp_mv s b cm) := by
  have low : ∀ j, j < 208 → sp_mv s b cm j = s j := fun j hj => by unfold sp_mv; rw [if_neg (by omega)]
  obtain ⟨i1, i2, i3, i4, i5⟩ := hI
  refine ⟨fun b' c' hb' hc' => ?_, ?_, fun j hj => ?_, fun j hj => ?_, fun j hj => ?_⟩
  · rw [sp_on_c (s := s) (fun k hk => low _ (by omega))]; exact i1 b' c' hb' hc'
  · rw [low 1 (by decide), low 2 (by decide), low 3 (by decide)]; exact i2
  · rw [low _ (by omega)]; exact i3 j hj
  · rw [low _ (by omega)]; exact i4 j hj
  · unfold sp_mv
    split
    · exact hm _
    · exact i5 j hj
theorem sp_I_tick {s : Nat → Nat} (hI : sp_I s) {b : Nat} (hb : b < 5) : sp_I (sp_tick s b) := by
  obtain ⟨h1, h2⟩ := sp_down_I hb 8 (s, fun _ => 0) (Nat.le_refl 8) hI (fun j => Nat.zero_le 1)
  exact sp_I_mv h1 hb h2
section M3
variable {E : tb_env} {d : Nat} {h : tb_heap} {nx : Nat} {Q : Option Value → tb_heap → Nat → Prop}
end M3
