/-! THE CLASS: orders read -/
def ps_cv (v w : ps_V) : Prop := v.1 = w.1 ∧ (w.1 ≠ 46 → v.2.1 = w.2.1) ∧ (w.1 = 112 → v.2.2.1 = w.2.2.1 ∧ v.2.2.2.1 = w.2.2.2.1) ∧ (w.1 = 46 ∨ w.1 = 116 ∨ w.1 = 112 → v.2.2.2.2 = w.2.2.2.2)
def ps_dv (tx : Nat → Nat) (le lo hi : Nat) (r : Bool × Nat) : Nat := if (ps_t tx le lo hi r).1 = true then tx r.2 - 48 else 0
def ps_nv (tx : Nat → Nat) (le lo hi : Nat) (r : Bool × Nat) : Nat := if (ps_num tx le lo hi r).1 = true then ps_val tx le hi r.2 else 0
theorem ps_t_ff {tx : Nat → Nat} {le lo hi p : Nat} : ps_t tx le lo hi (false, p) = (false, p) := by
  unfold ps_t
  rw [if_neg (fun q => by cases q.1)]
theorem ps_num_ff {tx : Nat → Nat} {le lo hi p : Nat} : ps_num tx le lo hi (false, p) = (false, p) := by
  unfold ps_num
  rw [ps_t_ff, if_neg (fun q => by cases q.1)]
theorem ps_ro_ff {tx : Nat → Nat} {le c p : Nat} : ps_ro tx le c (false, p) = (false, p) := by
  unfold ps_ro
  simp only [ps_t_ff, ps_num_ff, ite_self]
theorem ps_ord_ro {tx : Nat → Nat} {le p : Nat} (h : p < le ∧ ps_isv (tx p)) : ps_ord tx le p = (ps_ro tx le (tx p) (true, p + 1), ps_rv tx le (tx p) (p + 1)) := by
  unfold ps_ord ps_ro ps_rv
  rw [if_neg (fun q => q h)]
  by_cases d1 : tx p = 46
  · rw [if_pos d1, if_pos d1, if_pos d1]
  · rw [if_neg d1, if_neg d1, if_neg d1]
    by_cases d2 : tx p = 116
    · rw [if_pos d2, if_pos d2, if_pos d2]
    · rw [if_neg d2, if_neg d2, if_neg d2]
      by_cases d3 : tx p = 112
      · rw [if_pos d3, if_pos d3, if_pos d3]
      · rw [if_neg d3, if_neg d3, if_neg d3]
section O2
variable {E : tb_env} {d : Nat} {h : tb_heap} {nx : Nat} {Q : Option Value → tb_heap → Nat → Prop} {t : Nat} {tx : Nat → Nat} {le : Nat} {v : ps_V}
def ps_nx (tx : Nat → Nat) (le p : Nat) : (Bool × Nat) × Nat := if (ps_ord tx le p).1.1 = true ∧ (ps_ord tx le p).1.2 < le then (ps_t tx le 59 59 (ps_ord tx le p).1, if (ps_t tx le 59 59 (ps_ord tx le p).1).1 = true then 1 else 0) else ((ps_ord tx le p).1, 0)
end O2
