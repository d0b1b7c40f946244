/-! THE CLASS: grips, settings, ticks -/
theorem tb_St.of {h : tb_heap} {a : Nat} {s s' : Nat → Nat} (hS : tb_St h a s) (hs : ∀ j, j < 368 → s' j = s j) : tb_St h a s' :=
  hS.upO (by rw [hs 4 (by decide), hs 0 (by decide)]; exact hS.1) (hS.2.1.to (fun j j1 j2 => (hs j (by omega)).symm)) (hS.2.2.2.1.to rfl (fun j hj => by rw [hs _ (by omega)])) (fun _ _ => rfl) (fun j j1 j2 => hs j j2)
def sp_ag (s s' : Nat → Nat) (i : Nat) : Prop := ∀ j, (1 ≤ j ∧ j < 9 ∧ j ≠ 4) ∨ sp_loc i j → s j = s' j
theorem va_up_c {f f' : Nat → Nat} {x v v' j : Nat} (hv : v = v') (hf : f j = f' j) : va_up f x v j = va_up f' x v' j := by
  unfold va_up
  rw [hv, hf]
section AG
variable {s s' : Nat → Nat} {i : Nat}
theorem ag_loc (h : sp_ag s s' i) {j : Nat} (hj : sp_loc i j) : s j = s' j := h j (Or.inr hj)
theorem ag_on (h : sp_ag s s' i) {c : Nat} (hc : c < 8) : sp_on s i c = sp_on s' i c := sp_on_c (fun k hk => ag_loc h (by unfold sp_loc; omega))
theorem ag_need (h : sp_ag s s' i) {c k : Nat} (hc : c < 8) (hk : k < 4) : sp_need s i c k = sp_need s' i c k := by
  unfold sp_need
  rw [ag_loc h (show sp_loc i (208 + 32 * i + 4 * c + k) by unfold sp_loc; omega), ag_on h hc, h (5 + k) (by omega), h 2 (by omega), h 1 (by omega)]
theorem ag_room (h : sp_ag s s' i) {c : Nat} (hc : c < 8) : sp_room s i c = sp_room s' i c := by
  unfold sp_room
  split
  · rfl
  · rw [ag_on h (by omega)]
theorem ag_why (h : sp_ag s s' i) {c k : Nat} (hc : c < 8) (hk : k < 4) : sp_why s i c k = sp_why s' i c k := by
  unfold sp_why
  rw [ag_need h hc hk, ag_room h hc, ag_loc h (show sp_loc i (48 + 32 * i + 4 * c + k) by unfold sp_loc; omega), ag_loc h (show sp_loc i (13 + i) by unfold sp_loc; omega)]
theorem ag_g (h : sp_ag s s' i) {c k : Nat} (hc : c < 8) (hk : k < 4) : sp_g s i c k = sp_g s' i c k := by
  unfold sp_g
  rw [ag_room h hc, ag_loc h (show sp_loc i (48 + 32 * i + 4 * c + k) by unfold sp_loc; omega)]
theorem ag_kd (h : sp_ag s s' i) (t : Nat) : sp_kd s t = sp_kd s' t := sp_kd_c (fun k hk => h _ (by omega)) t
theorem ag_up (h : sp_ag s s' i) {x v v' : Nat} (hv : v = v') : sp_ag (va_up s x v) (va_up s' x v') i := fun j hj => va_up_c hv (h j hj)
theorem ag_sl (h : sp_ag s s' i) {c k : Nat} (hc : c < 8) (hk : k < 4) : sp_ag (sp_sl s i c k) (sp_sl s' i c k) i := by
  unfold sp_sl
  dsimp only
  rw [ag_g h hc hk, h 3 (by omega)]
  have h1 := ag_up h (x := 48 + 32 * i + 4 * c + k) (show s (48 + 32 * i + 4 * c + k) - sp_g s' i c k = s' (48 + 32 * i + 4 * c + k) - sp_g s' i c k by rw [ag_loc h (show sp_loc i (48 + 32 * i + 4 * c + k) by unfold sp_loc; omega)])
  generalize va_up s (48 + 32 * i + 4 * c + k) (s (48 + 32 * i + 4 * c + k) - sp_g s' i c k) = s1 at *
  generalize va_up s' (48 + 32 * i + 4 * c + k) (s' (48 + 32 * i + 4 * c + k) - sp_g s' i c k) = s1' at *
  have h2 := ag_up h1 (x := 23 + i) (show s1 (23 + i) + sp_g s' i c k / s' 3 = s1' (23 + i) + sp_g s' i c k / s' 3 by rw [ag_loc h1 (show sp_loc i (23 + i) by unfold sp_loc; omega)])
  generalize va_up s1 (23 + i) (s1 (23 + i) + sp_g s' i c k / s' 3) = s2 at *
  generalize va_up s1' (23 + i) (s1' (23 + i) + sp_g s' i c k / s' 3) = s2' at *
  by_cases c7 : c = 7
  · rw [if_pos c7, if_pos c7]
    have h3 := ag_up h2 (x := 28 + 4 * i + k) (show s2 (28 + 4 * i + k) + (sp_g s' i c k - sp_g s' i c k / s' 3) = s2' (28 + 4 * i + k) + (sp_g s' i c k - sp_g s' i c k / s' 3) by rw [ag_loc h2 (show sp_loc i (28 + 4 * i + k) by unfold sp_loc; omega)])
    generalize va_up s2 (28 + 4 * i + k) (s2 (28 + 4 * i + k) + (sp_g s' i c k - sp_g s' i c k / s' 3)) = s3 at *
    generalize va_up s2' (28 + 4 * i + k) (s2' (28 + 4 * i + k) + (sp_g s' i c k - sp_g s' i c k / s' 3)) = s3' at *
    exact ag_up h3 (by rw [ag_loc h3 (show sp_loc i (18 + i) by unfold sp_loc; omega)])
  · rw [if_neg c7, if_neg c7]
    exact ag_up h2 (by rw [ag_loc h2 (show sp_loc i (48 + 32 * i + 4 * (c + 1) + k) by unfold sp_loc; omega)])
theorem ag_slot {q q' : (Nat → Nat) × (Nat → Nat)} (h : sp_ag q.1 q'.1 i) (h2 : q.2 = q'.2) {c t : Nat} (hc : c < 8) (ht : t < 4) : sp_ag (sp_slot q i c t).1 (sp_slot q' i c t).1 i ∧ (sp_slot q i c t).2 = (sp_slot q' i c t).2 := by
  have hk := (sp_kd_ok q'.1 ht).1
  unfold sp_slot
  rw [ag_kd h t, ag_why h hc hk]
  by_cases hw : sp_why q'.1 i c (sp_kd q'.1 t) = 0
  · rw [if_pos hw, if_pos hw]
    refine ⟨ag_sl h hc hk, ?_⟩
    dsimp only
    unfold sp_cm
    rw [ag_g h hc hk, h 3 (by omega), h2]
  · rw [if_neg hw, if_neg hw]
    exact ⟨h, h2⟩
theorem ag_cell {q q' : (Nat → Nat) × (Nat → Nat)} (h : sp_ag q.1 q'.1 i) (h2 : q.2 = q'.2) {c : Nat} (hc : c < 8) : sp_ag (sp_cell q i c).1 (sp_cell q' i c).1 i ∧ (sp_cell q i c).2 = (sp_cell q' i c).2 := by
  unfold sp_cell
  have a0 := ag_slot h h2 hc (show 0 < 4 by decide)
  have a1 := ag_slot a0.1 a0.2 hc (show 1 < 4 by decide)
  have a2 := ag_slot a1.1 a1.2 hc (show 2 < 4 by decide)
  exact ag_slot a2.1 a2.2 hc (show 3 < 4 by decide)
theorem ag_down (n : Nat) : ∀ (q q' : (Nat → Nat) × (Nat → Nat)), n ≤ 8 → sp_ag q.1 q'.1 i → q.2 = q'.2 → sp_ag (sp_down i n q).1 (sp_down i n q').1 i ∧ (sp_down i n q).2 = (sp_down i n q').2 := by
  induction n with
  | zero => intro q q' hn h h2; exact ⟨h, h2⟩
  | succ n ih =>
    intro q q' hn h h2
    have a := ag_cell h h2 (show n < 8 by omega)
    exact ih _ _ (by omega) a.1 a.2
theorem ag_tick (h : sp_ag s s' i) : sp_ag (sp_tick s i) (sp_tick s' i) i := by
  have a := ag_down 8 (s, fun _ => 0) (s', fun _ => 0) (by decide) h rfl
  intro j hj
  unfold sp_tick sp_mv
  rw [a.2]
  split
  · rfl
  · exact a.1 j hj
theorem sep_slot {q : (Nat → Nat) × (Nat → Nat)} {c t j : Nat} (hc : c < 8) (ht : t < 4) (hj : ¬ sp_loc i j) : (sp_slot q i c t).1 j = q.1 j := by
  have hk := (sp_kd_ok q.1 ht).1
  unfold sp_loc at hj
  unfold sp_slot
  split
  · exact sp_sl_n (by omega) (by omega) (fun _ => by omega) (fun _ => by omega)
  · rfl
theorem sep_down {j : Nat} (hj : ¬ sp_loc i j) (n : Nat) : ∀ (q : (Nat → Nat) × (Nat → Nat)), n ≤ 8 → (sp_down i n q).1 j = q.1 j := by
  induction n with
  | zero => intro q hn; rfl
  | succ n ih =>
    intro q hn
    show (sp_down i n (sp_cell q i n)).1 j = _
    rw [ih _ (by omega)]
    unfold sp_cell
    rw [sep_slot (by omega) (by decide) hj, sep_slot (by omega) (by decide) hj, sep_slot (by omega) (by decide) hj, sep_slot (by omega) (by decide) hj]
theorem sep_tick {j : Nat} (hj : ¬ sp_loc i j) : sp_tick s i j = s j := by
  unfold sp_tick sp_mv
  rw [if_neg (by unfold sp_loc at hj; omega)]
  exact sep_down hj 8 _ (by decide)
end AG
def sp_t1 (i : Nat) : Nat → (Nat → Nat) → (Nat → Nat)
  | 0, s => s
  | n + 1, s => sp_t1 i n (sp_tick s i)
theorem sp_I_t1 {i : Nat} (hi : i < 5) (n : Nat) : ∀ s, sp_I s → sp_I (sp_t1 i n s) := by
  induction n with
  | zero => intro s hI; exact hI
  | succ n ih => intro s hI; exact ih _ (sp_I_tick hI hi)
theorem ag_t1 {i : Nat} (n : Nat) : ∀ s s', sp_ag s s' i → sp_ag (sp_t1 i n s) (sp_t1 i n s') i := by
  induction n with
  | zero => intro s s' h; exact h
  | succ n ih => intro s s' h; exact ih _ _ (ag_tick h)
theorem sep_t1 {i j : Nat} (hj : ¬ sp_loc i j) (n : Nat) : ∀ s, sp_t1 i n s j = s j := by
  induction n with
  | zero => intro s; rfl
  | succ n ih => intro s; rw [sp_t1, ih, sep_tick hj]
theorem ag_tk {i : Nat} (hi : i < 5) (n : Nat) : ∀ i0 s s', sp_ag s s' i → sp_ag (sp_tk i0 n s) (sp_t1 i ((i0 + n + 4 - i) / 5 - (i0 + 4 - i) / 5) s') i := by
  induction n with
  | zero =>
    intro i0 s s' h
    rw [show (i0 + 0 + 4 - i) / 5 - (i0 + 4 - i) / 5 = 0 by omega]
    exact h
  | succ n ih =>
    intro i0 s s' h
    show sp_ag (sp_tk (i0 + 1) n (sp_tick s (i0 % 5))) _ i
    by_cases e : i0 % 5 = i
    · rw [show (i0 + (n + 1) + 4 - i) / 5 - (i0 + 4 - i) / 5 = ((i0 + 1 + n + 4 - i) / 5 - (i0 + 1 + 4 - i) / 5) + 1 by omega, e]
      exact ih (i0 + 1) _ _ (ag_tick h)
    · rw [show (i0 + (n + 1) + 4 - i) / 5 - (i0 + 4 - i) / 5 = (i0 + 1 + n + 4 - i) / 5 - (i0 + 1 + 4 - i) / 5 by omega]
      refine ih (i0 + 1) _ _ (fun j hj => ?_)
      rw [sep_tick (by unfold sp_loc at hj ⊢; omega)]
      exact h j hj
theorem sep_tk {j : Nat} (hj : ∀ i, i < 5 → ¬ sp_loc i j) (n : Nat) : ∀ i0 s, sp_tk i0 n s j = s j := by
  induction n with
  | zero => intro i0 s; rfl
  | succ n ih =>
    intro i0 s
    show sp_tk (i0 + 1) n (sp_tick s (i0 % 5)) j = _
    rw [ih, sep_tick (hj _ (by omega))]
def sp_wipe (s : Nat → Nat) (i : Nat) : Nat → Nat := sp_mv s i (fun _ => 0)
theorem rest_down {s : Nat → Nat} {i : Nat} (hr : sp_rest s i) (n : Nat) : n ≤ 8 → sp_down i n (s, fun _ => 0) = (s, fun _ => 0) := by
  induction n with
  | zero => intro _; rfl
  | succ n ih =>
    intro hn
    have sl : ∀ t, t < 4 → sp_slot (s, fun _ => 0) i n t = (s, fun _ => 0) := fun t ht => by
      have hk := (sp_kd_ok s ht).1
      unfold sp_slot
      rw [if_neg]
      have := hr (4 * n + sp_kd s t) (by omega)
      rw [show (4 * n + sp_kd s t) / 4 = n by omega, show (4 * n + sp_kd s t) % 4 = sp_kd s t by omega] at this
      exact this
    show sp_down i n (sp_cell (s, fun _ => 0) i n) = _
    unfold sp_cell
    rw [sl 0 (by decide), sl 1 (by decide), sl 2 (by decide), sl 3 (by decide)]
    exact ih (by omega)
theorem rest_tick {s : Nat → Nat} {i : Nat} (hr : sp_rest s i) : sp_tick s i = sp_wipe s i := by
  unfold sp_tick
  rw [rest_down hr 8 (by decide)]
  rfl
theorem rest_wipe {s : Nat → Nat} {i : Nat} (hr : sp_rest s i) (hi : i < 5) : sp_rest (sp_wipe s i) i := by
  intro k hk
  have h0 := hr k hk
  have lo : ∀ j, j < 208 → sp_wipe s i j = s j := fun j hj => by unfold sp_wipe sp_mv; rw [if_neg (by omega)]
  have hm : sp_wipe s i (208 + 32 * i + 4 * (k / 4) + k % 4) = 0 := by unfold sp_wipe sp_mv; rw [if_pos (by omega)]
  have on : ∀ c, c < 8 → sp_on (sp_wipe s i) i c = sp_on s i c := fun c hc => sp_on_c (fun k hk => lo _ (by omega))
  have rm : sp_room (sp_wipe s i) i (k / 4) = sp_room s i (k / 4) := by
    unfold sp_room
    split
    · rfl
    · rw [on _ (by omega)]
  have nd : sp_need s i (k / 4) (k % 4) ≤ sp_need (sp_wipe s i) i (k / 4) (k % 4) := by
    unfold sp_need
    rw [hm, on _ (by omega), lo _ (by omega), lo 2 (by omega), if_neg (show ¬ (0 : Nat) = 1 by decide)]
    split
    · exact Nat.sub_le _ _
    · exact Nat.le_refl _
  unfold sp_why at h0 ⊢
  rw [rm, lo _ (by omega), lo _ (by omega)]
  by_cases c1 : s (48 + 32 * i + 4 * (k / 4) + k % 4) = 0
  · rw [if_pos c1]; decide
  · rw [if_neg c1] at h0 ⊢
    by_cases c2 : s (13 + i) < sp_need s i (k / 4) (k % 4)
    · rw [if_pos (by omega)]; decide
    · rw [if_neg c2] at h0
      by_cases c3 : sp_room s i (k / 4) = 0
      · rw [if_pos c3]
        split <;> decide
      · rw [if_neg c3] at h0; exact absurd rfl h0
theorem wipe_wipe (s : Nat → Nat) (i : Nat) : sp_wipe (sp_wipe s i) i = sp_wipe s i := by
  funext j
  unfold sp_wipe sp_mv
  split <;> rfl
theorem rest_t1 {s : Nat → Nat} {i : Nat} (hr : sp_rest s i) (hi : i < 5) (n : Nat) : sp_t1 i n (sp_wipe s i) = sp_wipe s i := by
  induction n with
  | zero => rfl
  | succ n ih => rw [sp_t1, rest_tick (rest_wipe hr hi), wipe_wipe]; exact ih
/-- board by board is tick by tick -/
theorem pass_eq (s : Nat → Nat) (t : Nat) : ∀ j, j < 368 → sp_tk 0 (t * 5) s j = sp_t1 4 t (sp_t1 3 t (sp_t1 2 t (sp_t1 1 t (sp_t1 0 t s)))) j := by
  intro j hj
  have cnt : ∀ i, i < 5 → (0 + t * 5 + 4 - i) / 5 - (0 + 4 - i) / 5 = t := fun i hi => by omega
  by_cases hl : ∃ i, i < 5 ∧ sp_loc i j
  · obtain ⟨i, hi, hl⟩ := hl
    have a := ag_tk hi (t * 5) 0 s s (fun _ _ => rfl) j (Or.inr hl)
    rw [cnt i hi] at a
    rw [a]
    have go : ∀ k, k < 5 → k ≠ i → ∀ S, sp_ag S s i → sp_ag (sp_t1 k t S) s i := fun k hk hne S hS x hx => by
      rw [sep_t1 (by unfold sp_loc at hx ⊢; omega)]
      exact hS x hx
    have out : ∀ k, k < 5 → k ≠ i → ∀ S, sp_t1 k t S j = S j := fun k hk hne S => sep_t1 (by unfold sp_loc at hl ⊢; omega) t S
    have me : ∀ S, sp_ag S s i → sp_t1 i t S j = sp_t1 i t s j := fun S hS => ag_t1 t S s hS j (Or.inr hl)
    have rf : sp_ag s s i := fun _ _ => rfl
    rcases (by omega : i = 0 ∨ i = 1 ∨ i = 2 ∨ i = 3 ∨ i = 4) with rfl | rfl | rfl | rfl | rfl
    · rw [out 4 (by decide) (by decide), out 3 (by decide) (by decide), out 2 (by decide) (by decide), out 1 (by decide) (by decide)]
    · rw [out 4 (by decide) (by decide), out 3 (by decide) (by decide), out 2 (by decide) (by decide), me _ (go 0 (by decide) (by decide) _ rf)]
    · rw [out 4 (by decide) (by decide), out 3 (by decide) (by decide), me _ (go 1 (by decide) (by decide) _ (go 0 (by decide) (by decide) _ rf))]
    · rw [out 4 (by decide) (by decide), me _ (go 2 (by decide) (by decide) _ (go 1 (by decide) (by decide) _ (go 0 (by decide) (by decide) _ rf)))]
    · rw [me _ (go 3 (by decide) (by decide) _ (go 2 (by decide) (by decide) _ (go 1 (by decide) (by decide) _ (go 0 (by decide) (by decide) _ rf))))]
  · have n : ∀ i, i < 5 → ¬ sp_loc i j := fun i hi q => hl ⟨i, hi, q⟩
    rw [sep_tk n, sep_t1 (n 4 (by decide)), sep_t1 (n 3 (by decide)), sep_t1 (n 2 (by decide)), sep_t1 (n 1 (by decide)), sep_t1 (n 0 (by decide))]
