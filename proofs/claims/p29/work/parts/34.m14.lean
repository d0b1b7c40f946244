/-! THE REFERENCE: perform itself -/
def ac_perf (s : Nat → Nat) (hs : Nat → Nat → Nat) (kn : Nat) (g : sp_G) : Int32 × (Nat → Nat) × (Nat → Nat → Nat) × Nat × sp_G :=
  if (ps_go g.2.2.1 g.2.2.2.1 61 0 0).1 = true then (if (ps_do g.2.2.1 g.2.2.2.1 61 0 0 s).1 < 0 then (-4, s, hs, kn, (g.1, g.2.1, g.2.2.1, g.2.2.2.1, nI (ps_do g.2.2.1 g.2.2.2.1 61 0 0 s).2.1, (ps_do g.2.2.1 g.2.2.2.1 61 0 0 s).1)) else (nI (ps_do g.2.2.1 g.2.2.2.1 61 0 0 s).2.1, (ps_do g.2.2.1 g.2.2.2.1 61 0 0 s).2.2, (sp_rec hs kn s).1, (sp_rec hs kn s).2, g)) else (-100 - nI (ps_go g.2.2.1 g.2.2.2.1 61 0 0).2.1, s, hs, kn, g)
theorem W_do {tx : Nat → Nat} {le : Nat} (f : Nat) : ∀ (p n : Nat) (s : Nat → Nat), sp_W s → sp_W (ps_do tx le f p n s).2.2 := by
  induction f with
  | zero => intro p n s hW; exact hW
  | succ f ih =>
    intro p n s hW
    rw [ps_do]
    split
    · exact W_ord hW _
    · split
      · exact ih _ _ _ (W_ord hW _)
      · exact W_ord hW _
theorem W_perf {s : Nat → Nat} {hs : Nat → Nat → Nat} {kn : Nat} {g : sp_G} (hW : sp_W s) : sp_W (ac_perf s hs kn g).2.1 := by
  unfold ac_perf
  split
  · split
    · exact hW
    · exact W_do _ _ _ _ hW
  · exact hW
section M14
variable {E : tb_env} {d : Nat} {nx : Nat} {Q : Option Value → tb_heap → Nat → Prop} {m : Nat}
end M14
