/-! what every state keeps -/
theorem sp_I_up {s : Nat → Nat} (hI : sp_I s) {j v : Nat} (h : j = 0 ∨ j = 4 ∨ (9 ≤ j ∧ j < 13) ∨ (18 ≤ j ∧ j < 48) ∨ (j = 1 ∧ v ≤ 30) ∨ (j = 2 ∧ 1 ≤ v ∧ v ≤ 99) ∨ (j = 3 ∧ 2 ≤ v ∧ v ≤ 99) ∨ (5 ≤ j ∧ j < 9 ∧ v ≤ 80)) : sp_I (va_up s j v) := by
  obtain ⟨i1, i2, i3, i4, i5⟩ := hI
  refine ⟨fun b' c' hb' hc' => ?_, ?_, fun i hi => ?_, fun i hi => ?_, fun i hi => ?_⟩
  · rw [sp_on_out (by omega)]; exact i1 b' c' hb' hc'
  · unfold va_up
    refine ⟨?_, ?_, ?_, ?_, ?_⟩ <;> (split <;> omega)
  · unfold va_up
    have := i3 i hi
    split <;> omega
  · rw [va_up_n (by omega)]; exact i4 i hi
  · rw [va_up_n (by omega)]; exact i5 i hi
theorem sp_I_pour {s : Nat → Nat} (hI : sp_I s) {b c k n : Nat} (hb : b < 5) (hc : c < 8) (hk : k < 4) (hf : sp_on s b c + n ≤ 99) : sp_I (sp_pour s b c k n) := by
  unfold sp_pour
  refine sp_I_up ?_ (by omega)
  obtain ⟨i1, i2, i3, i4, i5⟩ := hI
  refine ⟨fun b' c' hb' hc' => ?_, ?_, fun i hi => ?_, fun i hi => ?_, fun i hi => ?_⟩
  · by_cases e : b' = b ∧ c' = c
    · obtain ⟨rfl, rfl⟩ := e
      have := sp_on_in (s := s) (b := b') (c := c') (k := k) (x := s (48 + 32 * b' + 4 * c' + k) + n) hk
      omega
    · rw [sp_on_out (by omega)]; exact i1 b' c' hb' hc'
  · rw [va_up_n (by omega), va_up_n (by omega), va_up_n (by omega)]; exact i2
  · rw [va_up_n (by omega)]; exact i3 i hi
  · rw [va_up_n (by omega)]; exact i4 i hi
  · rw [va_up_n (by omega)]; exact i5 i hi
theorem sp_I_empty {s : Nat → Nat} (hI : sp_I s) {b : Nat} (hb : b < 5) : sp_I (sp_empty s b) := by
  have lo : ∀ j, j ≠ 4 → (j < 28 ∨ 48 ≤ j) → sp_empty s b j = s j := by
    intro j h1 h2
    unfold sp_empty
    rw [if_neg (by omega), if_neg h1]
  obtain ⟨i1, i2, i3, i4, i5⟩ := hI
  refine ⟨fun b' c' hb' hc' => ?_, ?_, fun i hi => ?_, fun i hi => ?_, fun i hi => ?_⟩
  · rw [sp_on_c (s := s) (fun k hk => lo _ (by omega) (by omega))]; exact i1 b' c' hb' hc'
  · rw [lo _ (by omega) (by omega), lo _ (by omega) (by omega), lo _ (by omega) (by omega)]; exact i2
  · rw [lo _ (by omega) (by omega)]; exact i3 i hi
  · rw [lo _ (by omega) (by omega)]; exact i4 i hi
  · rw [lo _ (by omega) (by omega)]; exact i5 i hi
theorem sp_I_pass {s : Nat → Nat} (hI : sp_I s) (n : Nat) : sp_I (sp_pass s n) := sp_I_up (sp_I_tk _ _ _ hI) (Or.inl rfl)
theorem sp_J_up {s : Nat → Nat} (hJ : sp_J s) {j v : Nat} (h : (1 ≤ j ∧ j < 28) ∨ 48 ≤ j) : sp_J (va_up s j v) := by
  obtain ⟨j1, j2⟩ := hJ
  refine ⟨?_, fun b k hb hk => ?_⟩
  · rw [va_up_n (by omega)]; exact j1
  · rw [va_up_n (by omega), va_up_n (by omega)]; exact j2 b k hb hk
theorem sp_J_jolt {s : Nat → Nat} (hJ : sp_J s) {b : Nat} : sp_J (sp_jolt s b) := by
  have lo : ∀ j, j < 208 → sp_jolt s b j = s j := by
    intro j h1
    unfold sp_jolt
    rw [if_neg (by omega)]
  obtain ⟨j1, j2⟩ := hJ
  refine ⟨?_, fun b k hb hk => ?_⟩
  · rw [lo _ (by omega)]; exact j1
  · rw [lo _ (by omega), lo _ (by omega)]; exact j2 b k hb hk
theorem sp_J_empty {s : Nat → Nat} (hJ : sp_J s) {b : Nat} : sp_J (sp_empty s b) := by
  obtain ⟨j1, j2⟩ := hJ
  have e0 : sp_empty s b 0 = s 0 := by unfold sp_empty; rw [if_neg (by omega), if_neg (by omega)]
  refine ⟨by rw [e0]; exact j1, fun b' k hb hk => ?_⟩
  rw [e0]
  unfold sp_empty
  have := j2 b' k hb hk
  split
  · omega
  · rw [if_neg (by omega)]; exact this
theorem sp_slot_pan {q : (Nat → Nat) × (Nat → Nat)} {b c t b' k : Nat} (hI : sp_I q.1) (hb : b < 5) (hc : c < 8) (hb' : b' < 5) (hk : k < 4) (ht : t < 4) : (sp_slot q b c t).1 0 = q.1 0 ∧ (sp_slot q b c t).1 (28 + 4 * b' + k) ≤ q.1 (28 + 4 * b' + k) + (if c = 7 ∧ b' = b then 99 else 0) := by
  have hkd := (sp_kd_ok q.1 ht).1
  unfold sp_slot
  split
  · dsimp only
    generalize sp_kd q.1 t = k' at *
    have hr := sp_room_le q.1 b c
    have hg := (sp_g_le q.1 b c k').2
    refine ⟨sp_sl_n (by omega) (by omega) (fun _ => by omega) (fun _ => by omega), ?_⟩
    by_cases e : c = 7 ∧ b' = b
    · rw [if_pos e]
      obtain ⟨rfl, rfl⟩ := e
      unfold sp_sl
      dsimp only
      rw [if_pos rfl, va_up_n (by omega)]
      have hu := Nat.sub_le (sp_g q.1 b' 7 k') (sp_g q.1 b' 7 k' / q.1 3)
      by_cases c2 : k = k'
      · subst c2
        rw [va_up_s, va_up_n (by omega), va_up_n (by omega)]
        omega
      · rw [va_up_n (by omega), va_up_n (by omega), va_up_n (by omega)]
        omega
    · rw [if_neg e, sp_sl_n (by omega) (by omega) (fun _ => by omega) (fun _ => by omega)]
      omega
  · exact ⟨rfl, Nat.le_add_right _ _⟩
theorem sp_cell_pan {q : (Nat → Nat) × (Nat → Nat)} {b c b' k : Nat} (hI : sp_I q.1) (hb : b < 5) (hc : c < 8) (hb' : b' < 5) (hk : k < 4) : (sp_cell q b c).1 0 = q.1 0 ∧ (sp_cell q b c).1 (28 + 4 * b' + k) ≤ q.1 (28 + 4 * b' + k) + (if c = 7 ∧ b' = b then 396 else 0) := by
  unfold sp_cell
  have I1 := sp_slot_I hI hb hc (show 0 < 4 by decide)
  have I2 := sp_slot_I I1 hb hc (show 1 < 4 by decide)
  have I3 := sp_slot_I I2 hb hc (show 2 < 4 by decide)
  have a0 := sp_slot_pan hI hb hc hb' hk (show 0 < 4 by decide)
  have a1 := sp_slot_pan I1 hb hc hb' hk (show 1 < 4 by decide)
  have a2 := sp_slot_pan I2 hb hc hb' hk (show 2 < 4 by decide)
  have a3 := sp_slot_pan I3 hb hc hb' hk (show 3 < 4 by decide)
  refine ⟨by rw [a3.1, a2.1, a1.1, a0.1], ?_⟩
  split
  · rename_i e
    rw [if_pos e] at a0 a1 a2 a3
    omega
  · rename_i e
    rw [if_neg e] at a0 a1 a2 a3
    omega
theorem sp_down_pan {b b' k : Nat} (hb : b < 5) (hb' : b' < 5) (hk : k < 4) (n : Nat) : ∀ q : (Nat → Nat) × (Nat → Nat), n ≤ 8 → sp_I q.1 → (sp_down b n q).1 0 = q.1 0 ∧ (sp_down b n q).1 (28 + 4 * b' + k) ≤ q.1 (28 + 4 * b' + k) + (if n = 8 ∧ b' = b then 396 else 0) := by
  induction n with
  | zero => intro q hn hI; exact ⟨rfl, Nat.le_add_right _ _⟩
  | succ n ih =>
    intro q hn hI
    have h1 := ih (sp_cell q b n) (by omega) (sp_cell_I hI hb (by omega))
    have h2 := sp_cell_pan (b := b) hI hb (show n < 8 by omega) hb' hk
    rw [if_neg (by omega)] at h1
    show (sp_down b n (sp_cell q b n)).1 0 = _ ∧ (sp_down b n (sp_cell q b n)).1 _ ≤ _
    refine ⟨by rw [h1.1, h2.1], ?_⟩
    by_cases e : n = 7 ∧ b' = b
    · rw [if_pos e] at h2
      rw [if_pos (by omega)]
      omega
    · rw [if_neg e] at h2
      rw [if_neg (by omega)]
      omega
theorem sp_tick_pan {s : Nat → Nat} (hI : sp_I s) {b b' k : Nat} (hb : b < 5) (hb' : b' < 5) (hk : k < 4) : sp_tick s b 0 = s 0 ∧ sp_tick s b (28 + 4 * b' + k) ≤ s (28 + 4 * b' + k) + (if b' = b then 396 else 0) := by
  have h := sp_down_pan hb hb' hk 8 (s, fun _ => 0) (by omega) hI
  unfold sp_tick sp_mv
  rw [if_neg (by omega), if_neg (by omega)]
  simpa using h
theorem sp_tk_pan {b' k : Nat} (hb' : b' < 5) (hk : k < 4) (n : Nat) : ∀ i s, sp_I s → sp_tk i n s 0 = s 0 ∧ sp_tk i n s (28 + 4 * b' + k) ≤ s (28 + 4 * b' + k) + 396 * ((i + n + 4 - b') / 5 - (i + 4 - b') / 5) := by
  induction n with
  | zero => intro i s hI; exact ⟨rfl, Nat.le_add_right _ _⟩
  | succ n ih =>
    intro i s hI
    have h1 := ih (i + 1) _ (sp_I_tick (b := i % 5) hI (by omega))
    have h2 := sp_tick_pan hI (show i % 5 < 5 by omega) hb' hk
    show sp_tk (i + 1) n (sp_tick s (i % 5)) 0 = _ ∧ sp_tk (i + 1) n (sp_tick s (i % 5)) _ ≤ _
    refine ⟨by rw [h1.1, h2.1], ?_⟩
    by_cases e : b' = i % 5
    · rw [if_pos e] at h2
      have e1 : (i + 1 + 4 - b') / 5 = (i + 4 - b') / 5 + 1 := by omega
      have e2 : (i + 4 - b') / 5 + 1 ≤ (i + 1 + n + 4 - b') / 5 := by omega
      rw [show i + (n + 1) = i + 1 + n by omega]
      omega
    · rw [if_neg e] at h2
      have e1 : (i + 1 + 4 - b') / 5 = (i + 4 - b') / 5 := by omega
      rw [show i + (n + 1) = i + 1 + n by omega]
      omega
theorem sp_J_pass {s : Nat → Nat} (hI : sp_I s) (hJ : sp_J s) {n : Nat} (hn : s 0 + n ≤ 99999) : sp_J (sp_pass s n) := by
  have e0 : sp_pass s n 0 = s 0 + n := by
    unfold sp_pass
    rw [va_up_s, (sp_tk_pan (b' := 0) (k := 0) (by decide) (by decide) (n * 5) 0 s hI).1]
  refine ⟨by rw [e0]; exact hn, fun b k hb hk => ?_⟩
  rw [e0]
  have h1 := (sp_tk_pan hb hk (n * 5) 0 s hI).2
  have h2 := hJ.2 b k hb hk
  unfold sp_pass
  rw [va_up_n (by omega)]
  have e1 : (0 + n * 5 + 4 - b) / 5 - (0 + 4 - b) / 5 = n := by omega
  rw [e1] at h1
  omega
abbrev sp_W (s : Nat → Nat) : Prop := sp_I s ∧ sp_J s
theorem W_tilt {s : Nat → Nat} (hW : sp_W s) (x y : Int32) : sp_W (ac_tilt s x y).2 := by
  unfold ac_tilt
  rcases tb_gd x (show 4 < 2 ^ 31 by decide) with hb | ⟨b, hb, rfl⟩
  · rw [if_pos hb]; exact hW
  · rw [if_neg (e_ok hb (by decide))]
    rcases tb_gd y (show 90 < 2 ^ 31 by decide) with ha | ⟨a, ha, rfl⟩
    · rw [if_pos ha]; exact hW
    · rw [if_neg (e_ok ha (by decide)), sp_n_nI (by omega), sp_n_nI (by omega)]
      split
      · exact hW
      · exact ⟨sp_I_angle hW.1 (by omega) ha, sp_J_up hW.2 (by omega)⟩
theorem W_grip {s : Nat → Nat} (hW : sp_W s) (x y : Int32) : sp_W (ac_grip s x y).2 := by
  unfold ac_grip
  rcases tb_gd x (show 3 < 2 ^ 31 by decide) with hb | ⟨b, hb, rfl⟩
  · rw [if_pos hb]; exact hW
  · rw [if_neg (e_ok hb (by decide))]
    rcases tb_gd y (show 80 < 2 ^ 31 by decide) with ha | ⟨a, ha, rfl⟩
    · rw [if_pos ha]; exact hW
    · rw [if_neg (e_ok ha (by decide)), sp_n_nI (by omega), sp_n_nI (by omega)]
      split
      · exact hW
      · exact ⟨sp_I_up hW.1 (by omega), sp_J_up hW.2 (by omega)⟩
theorem W_set {s : Nat → Nat} (hW : sp_W s) (x y : Int32) : sp_W (ac_set s x y).2 := by
  unfold ac_set
  rcases tb_gd x (show 2 < 2 ^ 31 by decide) with hb | ⟨b, hb, rfl⟩
  · rw [if_pos hb]; exact hW
  · rw [if_neg (e_ok hb (by decide))]
    by_cases hc : y < nI b ∨ (if nI b = nI 0 then nI 30 else nI 99) < y
    · rw [if_pos hc]; exact hW
    · rw [if_neg hc]
      have hb31 : b < 2 ^ 31 := by omega
      have hy0 : ¬ y < 0 := fun q => hc (Or.inl (by
        rw [Int32.lt_iff_toInt_lt] at q ⊢
        have e1 : (nI b).toInt = b := nI_toInt hb31
        rw [Int32.toInt_zero] at q
        omega))
      obtain ⟨a, ha31, rfl⟩ := nI_of (x := y) hy0
      have et : (if nI b = nI 0 then nI 30 else nI 99) = nI (if b = 0 then 30 else 99) := by
        by_cases c0 : b = 0
        · rw [if_pos c0, if_pos (by rw [c0])]
        · rw [if_neg c0, if_neg (by rw [nI_eq hb31 (by decide)]; exact c0)]
      rw [et, nI_ltI ha31 hb31, nI_ltI (by split <;> decide) ha31] at hc
      rw [sp_n_nI (by omega), sp_n_nI (by omega)]
      split
      · exact hW
      · refine ⟨sp_I_up hW.1 ?_, sp_J_up hW.2 (by omega)⟩
        by_cases c0 : b = 0
        · rw [if_pos c0] at hc; omega
        · rw [if_neg c0] at hc; omega
theorem W_pour {s : Nat → Nat} (hW : sp_W s) (x y z w : Int32) : sp_W (ac_pour s x y z w).2 := by
  unfold ac_pour
  rcases tb_place (x := x) (y := y) (z := z) with hp | ⟨b, c, k, hb, hc, hk, rfl, rfl, rfl⟩
  · rw [if_pos hp]; exact hW
  · rw [if_neg (tb_place_ok hb hc hk)]
    rcases tb_gd1 w (show 99 < 2 ^ 31 by decide) with hw | ⟨n, hn1, hn, rfl⟩
    · rw [if_pos hw]; exact hW
    · rw [if_neg (e_ok1 hn1 hn (by decide)), sp_n_nI (by omega), sp_n_nI (by omega), sp_n_nI (by omega), sp_n_nI (by omega)]
      split
      · exact hW
      · exact ⟨sp_I_pour hW.1 (by omega) (by omega) (by omega) (by omega), sp_J_up (sp_J_up hW.2 (by omega)) (by omega)⟩
theorem W_jolt {s : Nat → Nat} (hW : sp_W s) (x : Int32) : sp_W (ac_jolt s x).2 := by
  unfold ac_jolt
  rcases tb_gd x (show 4 < 2 ^ 31 by decide) with hb | ⟨b, hb, rfl⟩
  · rw [if_pos hb]; exact hW
  · rw [if_neg (e_ok hb (by decide)), sp_n_nI (by omega)]
    split
    · exact hW
    · exact ⟨sp_I_jolt hW.1 (by omega), sp_J_jolt hW.2⟩
theorem W_empty {s : Nat → Nat} (hW : sp_W s) (x : Int32) : sp_W (ac_empty s x).2 := by
  unfold ac_empty
  rcases tb_gd x (show 4 < 2 ^ 31 by decide) with hb | ⟨b, hb, rfl⟩
  · rw [if_pos hb]; exact hW
  · rw [if_neg (e_ok hb (by decide)), sp_n_nI (by omega)]
    split
    · exact hW
    · exact ⟨sp_I_empty hW.1 (by omega), sp_J_empty hW.2⟩
theorem W_pass {s : Nat → Nat} (hW : sp_W s) (x : Int32) : sp_W (ac_pass s x).2 := by
  unfold ac_pass
  split
  · exact hW
  · split
    · exact hW
    · exact ⟨sp_I_pass hW.1 _, sp_J_pass hW.1 hW.2 (by omega)⟩
