/-! THE REFERENCE: copies, sums, acts -/
def sp_acc (f : Nat → Nat) : Nat → Nat
  | 0 => 0
  | n + 1 => sp_acc f n + f n
theorem sp_hp_le {s : Nat → Nat} (hI : sp_I s) {b j : Nat} (hb : b < 5) (hj : j < 32) : s (48 + 32 * b + j) ≤ 99 := by
  have := sp_heap_le hI hb (show j / 4 < 8 by omega) (show j % 4 < 4 by omega)
  rwa [show 48 + 32 * b + 4 * (j / 4) + j % 4 = 48 + 32 * b + j by omega] at this
theorem tb_isA.st0 {h : tb_heap} {a ty n : Nat} {F : Nat → Int32} (hA : tb_isA h a ty n F) {j : Nat} {x : Int32} (hj : j < n) (hn : n < 2 ^ 31) {K : tb_heap → Prop} (hK : ∀ h', tb_isA h' a ty n (fun i => if i = j then x else F i) → (∀ q, q ≠ a → h' q = h q) → K h') : tb_wF (tb_stv h ty a (nI j) x) K := hA.st hj hn hK
/-- the model's object -/
def tb_Mo (h : tb_heap) (m : Nat) (kp kn le sa sb po wr sp : Int32) : Prop := h m = some (.inl (6, [.ref (m + 1), .ref (m + 2), .ref (m + 3), .ref (m + 4), .int kp, .ref (m + 5), .int kn, .ref (m + 6), .int le, .int sa, .int sb, .ref (m + 7), .int po, .int wr, .ref (m + 8), .int sp]))
section M4
variable {E : tb_env} {d : Nat} {h : tb_heap} {nx : Nat} {Q : Option Value → tb_heap → Nat → Prop}
theorem tb_Mo.g {m : Nat} {kp kn le sa sb po wr sp : Int32} (h0 : tb_Mo h m kp kn le sa sb po wr sp) : tb_gf h m 6 0 = some (.ref (m + 1)) ∧ tb_gf h m 6 1 = some (.ref (m + 2)) ∧ tb_gf h m 6 2 = some (.ref (m + 3)) ∧ tb_gf h m 6 3 = some (.ref (m + 4)) ∧ tb_gf h m 6 4 = some (.int kp) ∧ tb_gf h m 6 5 = some (.ref (m + 5)) ∧ tb_gf h m 6 6 = some (.int kn) ∧ tb_gf h m 6 7 = some (.ref (m + 6)) ∧ tb_gf h m 6 8 = some (.int le) ∧ tb_gf h m 6 9 = some (.int sa) ∧ tb_gf h m 6 10 = some (.int sb) ∧ tb_gf h m 6 11 = some (.ref (m + 7)) ∧ tb_gf h m 6 12 = some (.int po) ∧ tb_gf h m 6 13 = some (.int wr) ∧ tb_gf h m 6 14 = some (.ref (m + 8)) ∧ tb_gf h m 6 15 = some (.int sp) := by
  unfold tb_Mo at h0
  simp [tb_gf, h0]
theorem tb_Mo.O {m : Nat} {kp kn le sa sb po wr sp : Int32} (h0 : tb_Mo h m kp kn le sa sb po wr sp) : tb_isO h m 6 := ⟨_, h0⟩
theorem tb_Mo.S {m : Nat} {kp kn le sa sb po wr sp : Int32} {s : Nat → Nat} (h0 : tb_Mo h m kp kn le sa sb po wr sp) (hA : tb_isA h (m + 1) 0 368 (fun j => nI (s j))) : tb_MS h m s := ⟨⟨_, h0, rfl, rfl⟩, hA⟩
end M4
