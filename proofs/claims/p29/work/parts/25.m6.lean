/-! THE REFERENCE: the whole object, records, acts -/
theorem tb_pf_ok {h : tb_heap} {a ci k : Nat} {v : Value} {fs : List Value} (h0 : h a = some (.inl (ci, fs))) (hk : k < fs.length) {K : tb_heap → Prop} (hK : ∀ h', h' a = some (.inl (ci, fs.set k v)) → (∀ q, q ≠ a → h' q = h q) → K h') : tb_wF (tb_pf h a ci k v) K := by
  have e : tb_pf h a ci k v = some (tb_up h a (.inl (ci, fs.set k v))) := by
    unfold tb_pf
    rw [h0]
    simp [hk]
  rw [e]
  exact hK _ (by simp [tb_up]) (fun q hq => by simp [tb_up, hq])
/-- snapshot, whether there is one, text, its length, the latest stop -/
abbrev sp_G : Type := (Nat → Nat) × Nat × (Nat → Nat) × Nat × Int32 × Int32
def tb_MG (h : tb_heap) (m : Nat) (s : Nat → Nat) (kn : Int32) (g : sp_G) (po wr sp : Int32) (as ah cm od : Nat → Int32) (bf : Nat → Nat) : Prop :=
  tb_Mo h m (nI g.2.1) kn (nI g.2.2.2.1) g.2.2.2.2.1 g.2.2.2.2.2 po wr sp ∧ tb_isA h (m + 1) 0 368 (fun j => nI (s j)) ∧ tb_isA h (m + 2) 0 368 as ∧ tb_isA h (m + 3) 0 368 ah ∧ tb_isA h (m + 4) 0 368 (fun j => nI (g.1 j)) ∧ tb_isA h (m + 5) 0 1472 (fun j => nI (bf j)) ∧ tb_isA h (m + 6) 0 60 (fun j => nI (g.2.2.1 j)) ∧ tb_isA h (m + 7) 0 32 cm ∧ tb_isA h (m + 8) 0 5 od
def sp_hist (hs : Nat → Nat → Nat) (kn : Nat) (bf : Nat → Nat) : Prop := kn ≤ 4 ∧ ∀ i, i < kn → ∀ j, j < 368 → bf (368 * i + j) = hs i j
def tb_MF (h : tb_heap) (m : Nat) (s : Nat → Nat) (hs : Nat → Nat → Nat) (kn : Nat) (g : sp_G) : Prop := ∃ po wr sp as ah cm od bf, tb_MG h m s (nI kn) g po wr sp as ah cm od bf ∧ sp_hist hs kn bf
/-- what lies outside the model stays -/
def tb_out (h h' : tb_heap) (lo hi : Nat) : Prop := ∀ q, q < lo ∨ hi ≤ q → h' q = h q
theorem tb_out.rf {h : tb_heap} {lo hi : Nat} : tb_out h h lo hi := fun _ _ => rfl
theorem tb_out.tr {h h' h'' : tb_heap} {lo hi : Nat} (h1 : tb_out h h' lo hi) (h2 : tb_out h' h'' lo hi) : tb_out h h'' lo hi := fun q hq => (h2 q hq).trans (h1 q hq)
theorem tb_MG.S {h : tb_heap} {m : Nat} {s : Nat → Nat} {kn : Int32} {g : sp_G} {po wr sp : Int32} {as ah cm od : Nat → Int32} {bf : Nat → Nat} (h0 : tb_MG h m s kn g po wr sp as ah cm od bf) : tb_MS h m s := h0.1.S h0.2.1
theorem tb_MG.upS {h h' : tb_heap} {m : Nat} {s s' : Nat → Nat} {kn : Int32} {g : sp_G} {po wr sp : Int32} {as ah cm od cm' : Nat → Int32} {bf : Nat → Nat} (h0 : tb_MG h m s kn g po wr sp as ah cm od bf) (hS : tb_MS h' m s') (hC : tb_isA h' (m + 7) 0 32 cm') (hF : ∀ q, q ≠ m + 1 → q ≠ m + 7 → h' q = h q) : tb_MG h' m s' kn g po wr sp as ah cm' od bf := by
  obtain ⟨a1, a2, a3, a4, a5, a6, a7, a8, a9⟩ := h0
  exact ⟨(hF m (by omega) (by omega)).trans a1, hS.2, a3.to (hF _ (by omega) (by omega)) (fun _ _ => rfl), a4.to (hF _ (by omega) (by omega)) (fun _ _ => rfl), a5.to (hF _ (by omega) (by omega)) (fun _ _ => rfl), a6.to (hF _ (by omega) (by omega)) (fun _ _ => rfl), a7.to (hF _ (by omega) (by omega)) (fun _ _ => rfl), hC, a9.to (hF _ (by omega) (by omega)) (fun _ _ => rfl)⟩
theorem tb_MG.upA {h h' : tb_heap} {m : Nat} {s : Nat → Nat} {kn : Int32} {g : sp_G} {po wr sp : Int32} {as ah cm od ah' : Nat → Int32} {bf : Nat → Nat} (h0 : tb_MG h m s kn g po wr sp as ah cm od bf) (hA : tb_isA h' (m + 3) 0 368 ah') (hF : ∀ q, q ≠ m + 3 → h' q = h q) : tb_MG h' m s kn g po wr sp as ah' cm od bf := by
  obtain ⟨a1, a2, a3, a4, a5, a6, a7, a8, a9⟩ := h0
  exact ⟨(hF m (by omega)).trans a1, a2.to (hF _ (by omega)) (fun _ _ => rfl), a3.to (hF _ (by omega)) (fun _ _ => rfl), hA, a5.to (hF _ (by omega)) (fun _ _ => rfl), a6.to (hF _ (by omega)) (fun _ _ => rfl), a7.to (hF _ (by omega)) (fun _ _ => rfl), a8.to (hF _ (by omega)) (fun _ _ => rfl), a9.to (hF _ (by omega)) (fun _ _ => rfl)⟩
theorem tb_MG.upB {h h' : tb_heap} {m : Nat} {s : Nat → Nat} {kn : Int32} {g : sp_G} {po wr sp : Int32} {as ah cm od : Nat → Int32} {bf bf' : Nat → Nat} (h0 : tb_MG h m s kn g po wr sp as ah cm od bf) (hA : tb_isA h' (m + 5) 0 1472 (fun j => nI (bf' j))) (hF : ∀ q, q ≠ m + 5 → h' q = h q) : tb_MG h' m s kn g po wr sp as ah cm od bf' := by
  obtain ⟨a1, a2, a3, a4, a5, a6, a7, a8, a9⟩ := h0
  exact ⟨(hF m (by omega)).trans a1, a2.to (hF _ (by omega)) (fun _ _ => rfl), a3.to (hF _ (by omega)) (fun _ _ => rfl), a4.to (hF _ (by omega)) (fun _ _ => rfl), a5.to (hF _ (by omega)) (fun _ _ => rfl), hA, a7.to (hF _ (by omega)) (fun _ _ => rfl), a8.to (hF _ (by omega)) (fun _ _ => rfl), a9.to (hF _ (by omega)) (fun _ _ => rfl)⟩
theorem tb_MG.upO {h h' : tb_heap} {m : Nat} {s : Nat → Nat} {kn kn' : Int32} {g : sp_G} {g' : sp_G} {po wr sp po' wr' sp' : Int32} {as ah cm od : Nat → Int32} {bf : Nat → Nat} (h0 : tb_MG h m s kn g po wr sp as ah cm od bf) (hO : tb_Mo h' m (nI g'.2.1) kn' (nI g'.2.2.2.1) g'.2.2.2.2.1 g'.2.2.2.2.2 po' wr' sp') (hg : g'.1 = g.1 ∧ g'.2.2.1 = g.2.2.1) (hF : ∀ q, q ≠ m → h' q = h q) : tb_MG h' m s kn' g' po' wr' sp' as ah cm od bf := by
  obtain ⟨a1, a2, a3, a4, a5, a6, a7, a8, a9⟩ := h0
  refine ⟨hO, a2.to (hF _ (by omega)) (fun _ _ => rfl), a3.to (hF _ (by omega)) (fun _ _ => rfl), a4.to (hF _ (by omega)) (fun _ _ => rfl), a5.to (hF _ (by omega)) (fun _ _ => by rw [hg.1]), a6.to (hF _ (by omega)) (fun _ _ => rfl), a7.to (hF _ (by omega)) (fun _ _ => by rw [hg.2]), a8.to (hF _ (by omega)) (fun _ _ => rfl), a9.to (hF _ (by omega)) (fun _ _ => rfl)⟩
def sp_rec (hs : Nat → Nat → Nat) (kn : Nat) (s : Nat → Nat) : (Nat → Nat → Nat) × Nat := if kn = 4 then (fun i => if i = 3 then s else hs (i + 1), 4) else (fun i => if i = kn then s else hs i, kn + 1)
section M6
variable {E : tb_env} {d : Nat} {h : tb_heap} {nx : Nat} {Q : Option Value → tb_heap → Nat → Prop}
/-- the history behind an act that answers r -/
def sp_rc (r : Int32) (hs : Nat → Nat → Nat) (kn : Nat) (s : Nat → Nat) : (Nat → Nat → Nat) × Nat := if r < 0 then (hs, kn) else sp_rec hs kn s
end M6
