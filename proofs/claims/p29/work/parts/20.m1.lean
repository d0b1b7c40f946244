/-! THE REFERENCE: its small methods -/
def tb_isA (h : tb_heap) (a ty n : Nat) (F : Nat → Int32) : Prop := ∃ f, h a = some (.inr (.inl (ty, n, f))) ∧ ∀ j, j < n → f j = F j
theorem tb_isA.ld {h : tb_heap} {a ty n : Nat} {F : Nat → Int32} (hA : tb_isA h a ty n F) {E : tb_env} {j : Nat} (hj : j < n) (hn : n < 2 ^ 31) {K : Int32 → Prop} : tb_wF (tb_ld E h ty a (nI j)) K = K (F j) := by
  obtain ⟨f, h1, h2⟩ := hA
  have hc : (nI j).toNatClampNeg = j := nI_clamp (by omega)
  have e : tb_ld E h ty a (nI j) = some (f j) := by
    unfold tb_ld tb_ra
    rw [h1]
    simp only [if_true, hc]
    rw [if_neg]
    intro q
    rcases q with q | q
    · exact nI_pos (by omega) q
    · omega
  rw [e, h2 j hj]
  rfl
theorem tb_isA.st {h : tb_heap} {a ty n : Nat} {F : Nat → Int32} (hA : tb_isA h a ty n F) {j : Nat} {x : Int32} (hj : j < n) (hn : n < 2 ^ 31) {K : tb_heap → Prop} (hK : ∀ h', tb_isA h' a ty n (upd F j x) → (∀ q, q ≠ a → h' q = h q) → K h') : tb_wF (tb_stv h ty a (nI j) x) K := by
  obtain ⟨f, h1, h2⟩ := hA
  have hc : (nI j).toNatClampNeg = j := nI_clamp (by omega)
  have e : tb_stv h ty a (nI j) x = some (tb_up h a (.inr (.inl (ty, n, upd f j x)))) := by
    unfold tb_stv
    rw [h1]
    simp only [if_true, hc]
    rw [if_neg]
    intro q
    rcases q with q | q
    · exact nI_pos (by omega) q
    · omega
  rw [e]
  refine hK _ ⟨upd f j x, by simp [tb_up], fun i hi => ?_⟩ (fun q hq => by simp [tb_up, hq])
  unfold upd
  split
  · rfl
  · exact h2 i hi
theorem tb_isA.to {h h' : tb_heap} {a ty n : Nat} {F G : Nat → Int32} (hA : tb_isA h a ty n F) (hh : h' a = h a) (hF : ∀ j, j < n → F j = G j) : tb_isA h' a ty n G := by
  obtain ⟨f, h1, h2⟩ := hA
  exact ⟨f, by rw [hh, h1], fun j hj => (h2 j hj).trans (hF j hj)⟩
def tb_MS (h : tb_heap) (m : Nat) (s : Nat → Nat) : Prop := (∃ fs, h m = some (.inl (6, fs)) ∧ fs[0]? = some (.ref (m + 1)) ∧ fs[11]? = some (.ref (m + 7))) ∧ tb_isA h (m + 1) 0 368 (fun j => nI (s j))
theorem tb_MS.g {h : tb_heap} {m : Nat} {s : Nat → Nat} (hM : tb_MS h m s) : tb_gf h m 6 0 = some (.ref (m + 1)) ∧ tb_gf h m 6 11 = some (.ref (m + 7)) := by
  obtain ⟨⟨fs, h1, h2, h3⟩, -⟩ := hM
  simp only [tb_gf, h1, if_true, h2, h3, and_self]
theorem tb_MS.O {h : tb_heap} {m : Nat} {s : Nat → Nat} (hM : tb_MS h m s) : tb_isO h m 6 := by
  obtain ⟨⟨fs, h1, h2⟩, -⟩ := hM
  exact ⟨fs, h1⟩
theorem tb_MS.ld {E : tb_env} {h : tb_heap} {m : Nat} {s : Nat → Nat} (hM : tb_MS h m s) {j : Nat} (hj : j < 368) {K : Int32 → Prop} : tb_wF (tb_ld E h 0 (m + 1) (nI j)) K = K (nI (s j)) := hM.2.ld hj (by decide)
theorem tb_MS.to {h h' : tb_heap} {m : Nat} {s s' : Nat → Nat} (hM : tb_MS h m s) (h0 : h' m = h m) (h1 : h' (m + 1) = h (m + 1)) (hs : ∀ j, j < 368 → s j = s' j) : tb_MS h' m s' := by
  obtain ⟨⟨fs, g1, g2⟩, g3⟩ := hM
  exact ⟨⟨fs, by rw [h0, g1], g2⟩, g3.to h1 (fun j hj => by rw [hs j hj])⟩
theorem tb_MS.st {h : tb_heap} {m : Nat} {s : Nat → Nat} (hM : tb_MS h m s) {j v : Nat} (hj : j < 368) {K : tb_heap → Prop} (hK : ∀ h', tb_MS h' m (va_up s j v) → (∀ q, q ≠ m + 1 → h' q = h q) → K h') : tb_wF (tb_stv h 0 (m + 1) (nI j) (nI v)) K := by
  refine hM.2.st hj (by decide) (fun h' hA hF => hK h' ⟨?_, hA.to rfl (fun i hi => ?_)⟩ hF)
  · rw [hF m (by omega)]; exact hM.1
  · unfold upd va_up
    dsimp only
    split <;> rfl
section M1
variable {E : tb_env} {d : Nat} {h : tb_heap} {nx : Nat} {Q : Option Value → tb_heap → Nat → Prop}
def sp_on (s : Nat → Nat) (b c : Nat) : Nat := s (48 + 32 * b + 4 * c + 0) + s (48 + 32 * b + 4 * c + 1) + s (48 + 32 * b + 4 * c + 2) + s (48 + 32 * b + 4 * c + 3)
def sp_all (s : Nat → Nat) (b : Nat) : Nat := sp_on s b 0 + sp_on s b 1 + sp_on s b 2 + sp_on s b 3 + sp_on s b 4 + sp_on s b 5 + sp_on s b 6 + sp_on s b 7
/-- what every state of the sand keeps to -/
def sp_I (s : Nat → Nat) : Prop := (∀ b c, b < 5 → c < 8 → sp_on s b c ≤ 99) ∧ (s 1 ≤ 30 ∧ 1 ≤ s 2 ∧ s 2 ≤ 99 ∧ 2 ≤ s 3 ∧ s 3 ≤ 99) ∧ (∀ k, k < 4 → s (5 + k) ≤ 80) ∧ (∀ b, b < 5 → s (13 + b) ≤ 90) ∧ (∀ j, j < 160 → s (208 + j) ≤ 1)
def sp_need (s : Nat → Nat) (b c k : Nat) : Nat := if s (208 + 32 * b + 4 * c + k) = 1 then s (5 + k) + sp_on s b c / s 2 - s 1 else s (5 + k) + sp_on s b c / s 2
def sp_room (s : Nat → Nat) (b c : Nat) : Nat := if c = 7 then 99 else 99 - sp_on s b (c + 1)
def sp_why (s : Nat → Nat) (b c k : Nat) : Nat := if s (48 + 32 * b + 4 * c + k) = 0 then 1 else if s (13 + b) < sp_need s b c k then 2 else if sp_room s b c = 0 then 3 else 0
theorem sp_need_le {s : Nat → Nat} (hI : sp_I s) {b c k : Nat} (hb : b < 5) (hc : c < 8) (hk : k < 4) : sp_need s b c k ≤ 179 := by
  have j1 := hI.1 b c hb hc
  have j2 := hI.2.2.1 k hk
  have j4 : sp_on s b c / s 2 ≤ 99 := Nat.le_trans (Nat.div_le_self _ _) j1
  unfold sp_need
  split <;> omega
theorem sp_heap_le {s : Nat → Nat} (hI : sp_I s) {b c k : Nat} (hb : b < 5) (hc : c < 8) (hk : k < 4) : s (48 + 32 * b + 4 * c + k) ≤ 99 := by
  have j1 := hI.1 b c hb hc
  unfold sp_on at j1
  rcases (by omega : k = 0 ∨ k = 1 ∨ k = 2 ∨ k = 3) with rfl | rfl | rfl | rfl <;> omega
theorem sp_room_le (s : Nat → Nat) (b c : Nat) : sp_room s b c ≤ 99 := by unfold sp_room; split <;> omega
end M1
