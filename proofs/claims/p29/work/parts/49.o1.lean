/-! THE CLASS: the reader of texts -/
def tb_OP (h : tb_heap) (t : Nat) (tx : Nat → Nat) (le : Nat) (r : Bool × Nat) (v : ps_V) : Prop := h t = some (.inl (2, [.ref (t + 1), .int (nI le), .int (nI r.2), .int (nI (ps_w r.1)), .int (nI v.1), .int (nI v.2.1), .int (nI v.2.2.1), .int (nI v.2.2.2.1), .int (nI v.2.2.2.2)])) ∧ tb_isA h (t + 1) 2 60 (fun j => nI (tx j))
theorem e_ltn {c lo : Nat} (h : c < 48) (hl : lo < 2 ^ 31) : nI c - nI 48 < nI lo := by
  have h1 : nI c - nI 48 < 0 := by rw [e_neg h (by decide)]; trivial
  have h2 : 0 ≤ nI lo := by rw [e_0le hl]; trivial
  exact Int32.lt_of_lt_of_le h1 h2
section O1
variable {E : tb_env} {d : Nat} {h : tb_heap} {nx : Nat} {Q : Option Value → tb_heap → Nat → Prop} {t : Nat} {tx : Nat → Nat} {le : Nat} {v : ps_V}
theorem tb_OP.g {r : Bool × Nat} (hP : tb_OP h t tx le r v) : tb_gf h t 2 0 = some (.ref (t + 1)) ∧ tb_gf h t 2 1 = some (.int (nI le)) ∧ tb_gf h t 2 2 = some (.int (nI r.2)) ∧ tb_gf h t 2 3 = some (.int (nI (ps_w r.1))) ∧ tb_gf h t 2 4 = some (.int (nI v.1)) ∧ tb_gf h t 2 5 = some (.int (nI v.2.1)) ∧ tb_gf h t 2 6 = some (.int (nI v.2.2.1)) ∧ tb_gf h t 2 7 = some (.int (nI v.2.2.2.1)) ∧ tb_gf h t 2 8 = some (.int (nI v.2.2.2.2)) := by
  unfold tb_gf
  rw [hP.1]
  exact ⟨rfl, rfl, rfl, rfl, rfl, rfl, rfl, rfl, rfl⟩
theorem tb_OP.O {r : Bool × Nat} (hP : tb_OP h t tx le r v) : tb_isO h t 2 := ⟨_, hP.1⟩
theorem tb_OP.ld {r : Bool × Nat} (hP : tb_OP h t tx le r v) {j : Nat} (hj : j < 60) {K : Int32 → Prop} : tb_wF (tb_ld E h 2 (t + 1) (nI j)) K = K (nI (tx j)) := hP.2.ld hj (by decide)
theorem tb_OP.fr {h' : tb_heap} {r : Bool × Nat} (hP : tb_OP h t tx le r v) (hF : ∀ q, t ≤ q → q < t + 2 → h' q = h q) : tb_OP h' t tx le r v := ⟨(hF t (by omega) (by omega)).trans hP.1, hP.2.to (hF _ (by omega) (by omega)) (fun _ _ => rfl)⟩
/-- a field of the reader is put -/
theorem tb_OP.pf {r : Bool × Nat} (hP : tb_OP h t tx le r v) {r' : Bool × Nat} {v' : ps_V} {le' k : Nat} {x : Value} (hk : k < 9) (hx : [Value.ref (t + 1), .int (nI le), .int (nI r.2), .int (nI (ps_w r.1)), .int (nI v.1), .int (nI v.2.1), .int (nI v.2.2.1), .int (nI v.2.2.2.1), .int (nI v.2.2.2.2)].set k x = [Value.ref (t + 1), .int (nI le'), .int (nI r'.2), .int (nI (ps_w r'.1)), .int (nI v'.1), .int (nI v'.2.1), .int (nI v'.2.2.1), .int (nI v'.2.2.2.1), .int (nI v'.2.2.2.2)]) {K : tb_heap → Prop} (hK : ∀ h', tb_OP h' t tx le' r' v' → (∀ q, q ≠ t → h' q = h q) → K h') : tb_wF (tb_pf h t 2 k x) K := by
  refine tb_pf_ok hP.1 (by simp; omega) (fun h' h1 h2 => hK h' ⟨?_, hP.2.to (h2 _ (by omega)) (fun _ _ => rfl)⟩ h2)
  rw [h1, hx]
end O1
