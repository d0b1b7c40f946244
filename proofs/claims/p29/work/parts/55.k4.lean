/-! THE CLASS ITSELF: perform -/
theorem ps_go_cnt {tx : Nat → Nat} {le : Nat} (f : Nat) : ∀ p n, (ps_go tx le f p n).1 = true → n < (ps_go tx le f p n).2.2 ∧ (ps_go tx le f p n).2.2 ≤ n + f := by
  induction f with
  | zero => intro p n h; cases h
  | succ f ih =>
    intro p n h
    rw [ps_go] at h ⊢
    split at h
    · rename_i c1
      rw [if_pos c1]
      split at h
      · rename_i c2
        rw [if_pos c2]
        split at h
        · rename_i c3
          rw [if_pos c3]
          have := ih _ _ h
          omega
        · cases h
      · rename_i c2
        rw [if_neg c2]
        exact ⟨Nat.lt_succ_self n, by show n + 1 ≤ _; omega⟩
    · cases h
section C13
variable {E : tb_env} {d : Nat} {h : tb_heap} {nx : Nat} {Q : Option Value → tb_heap → Nat → Prop} {x kn : Nat} {s : Nat → Nat} {hs : Nat → Nat → Nat} {g : sp_G}
end C13
