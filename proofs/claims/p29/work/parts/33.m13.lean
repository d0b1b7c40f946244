/-! THE REFERENCE: perform -/
def ac_ord (v : ps_V) (s : Nat → Nat) : Int32 × (Nat → Nat) := if v.1 = 116 then ac_tilt s (nI v.2.1) (nI v.2.2.2.2) else if v.1 = 112 then ac_pour s (nI v.2.1) (nI v.2.2.1) (nI v.2.2.2.1) (nI v.2.2.2.2) else if v.1 = 106 then ac_jolt s (nI v.2.1) else if v.1 = 101 then ac_empty s (nI v.2.1) else ac_pass s (nI v.2.2.2.2)
theorem W_ord {s : Nat → Nat} (hW : sp_W s) (v : ps_V) : sp_W (ac_ord v s).2 := by
  unfold ac_ord
  split
  · exact W_tilt hW _ _
  · split
    · exact W_pour hW _ _ _ _
    · split
      · exact W_jolt hW _
      · split
        · exact W_empty hW _
        · exact W_pass hW _
def ps_ok (v : ps_V) : Prop := ∃ b c k n, b ≤ 4 ∧ c ≤ 7 ∧ k ≤ 3 ∧ ((v = (46, 0, 0, 0, n) ∧ 1 ≤ n ∧ n ≤ 99) ∨ (v = (116, b, 0, 0, n) ∧ n ≤ 90) ∨ (v = (112, b, c, k, n) ∧ 1 ≤ n ∧ n ≤ 99) ∨ v = (106, b, 0, 0, 0) ∨ v = (101, b, 0, 0, 0))
def ps_go (tx : Nat → Nat) (le : Nat) : Nat → Nat → Nat → Bool × Nat × Nat
  | 0, p, n => (false, p, n)
  | f + 1, p, n => if (ps_ord tx le p).1.1 = true then (if (ps_ord tx le p).1.2 < le then (if (ps_t tx le 59 59 (true, (ps_ord tx le p).1.2)).1 = true then ps_go tx le f ((ps_ord tx le p).1.2 + 1) (n + 1) else (false, (ps_ord tx le p).1.2, n + 1)) else (true, (ps_ord tx le p).1.2, n + 1)) else (false, (ps_ord tx le p).1.2, n + 1)
def ps_do (tx : Nat → Nat) (le : Nat) : Nat → Nat → Nat → (Nat → Nat) → Int32 × Nat × (Nat → Nat)
  | 0, _, n, s => (0, n, s)
  | f + 1, p, n, s => if (ac_ord (ps_ord tx le p).2 s).1 < 0 ∧ ¬ (ac_ord (ps_ord tx le p).2 s).1 = -5 then ((ac_ord (ps_ord tx le p).2 s).1, n, (ac_ord (ps_ord tx le p).2 s).2) else if (ps_ord tx le p).1.2 < le then ps_do tx le f ((ps_ord tx le p).1.2 + 1) (n + 1) (ac_ord (ps_ord tx le p).2 s).2 else (0, n + 1, (ac_ord (ps_ord tx le p).2 s).2)
theorem ps_t_f {tx : Nat → Nat} {le lo hi p : Nat} (h : ¬ (ps_t tx le lo hi (true, p)).1 = true) : ps_t tx le lo hi (true, p) = (false, p) := by
  unfold ps_t at h ⊢
  by_cases c : (true, p).1 = true ∧ (true, p).2 < le ∧ lo ≤ tx (true, p).2 ∧ tx (true, p).2 ≤ hi
  · rw [if_pos c] at h; exact absurd rfl h
  · rw [if_neg c]
theorem tb_MG.upSP {h h' : tb_heap} {m : Nat} {s : Nat → Nat} {kn : Int32} {g : sp_G} {po wr sp sp' : Int32} {as ah cm od : Nat → Int32} {bf : Nat → Nat} (h0 : tb_MG h m s kn g po wr sp as ah cm od bf) (h1 : h' m = some (.inl (6, [.ref (m + 1), .ref (m + 2), .ref (m + 3), .ref (m + 4), .int (nI g.2.1), .ref (m + 5), .int kn, .ref (m + 6), .int (nI g.2.2.2.1), .int g.2.2.2.2.1, .int g.2.2.2.2.2, .ref (m + 7), .int po, .int wr, .ref (m + 8), .int sp']))) (hF : ∀ q, q ≠ m → h' q = h q) : tb_MG h' m s kn g po wr sp' as ah cm od bf :=
  h0.upO (g' := g) h1 ⟨rfl, rfl⟩ hF
section M13
variable {E : tb_env} {d : Nat} {h : tb_heap} {nx : Nat} {Q : Option Value → tb_heap → Nat → Prop} {m : Nat} {s : Nat → Nat} {kn : Int32} {g : sp_G} {sp : Int32} {as ah cm od : Nat → Int32} {bf : Nat → Nat}
end M13
