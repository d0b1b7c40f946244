/-! THE REFERENCE: what would be, history, texts -/
theorem sp_I_angle {s : Nat → Nat} (hI : sp_I s) {b a : Nat} (hb : b < 5) (ha : a ≤ 90) : sp_I (va_up s (13 + b) a) := by
  obtain ⟨i1, i2, i3, i4, i5⟩ := hI
  refine ⟨fun b' c' hb' hc' => ?_, ?_, fun j hj => ?_, fun j hj => ?_, fun j hj => ?_⟩
  · rw [sp_on_out (by omega)]; exact i1 b' c' hb' hc'
  · rw [va_up_n (by omega), va_up_n (by omega), va_up_n (by omega)]; exact i2
  · rw [va_up_n (by omega)]; exact i3 j hj
  · unfold va_up
    split
    · exact ha
    · exact i4 j hj
  · rw [va_up_n (by omega)]; exact i5 j hj
theorem tb_MG.upAs {h h' : tb_heap} {m : Nat} {s : Nat → Nat} {kn : Int32} {g : sp_G} {po wr sp : Int32} {as ah cm od as' : Nat → Int32} {bf : Nat → Nat} (h0 : tb_MG h m s kn g po wr sp as ah cm od bf) (hA : tb_isA h' (m + 2) 0 368 as') (hF : ∀ q, q ≠ m + 2 → h' q = h q) : tb_MG h' m s kn g po wr sp as' ah cm od bf := by
  obtain ⟨a1, a2, a3, a4, a5, a6, a7, a8, a9⟩ := h0
  exact ⟨(hF m (by omega)).trans a1, a2.to (hF _ (by omega)) (fun _ _ => rfl), hA, a4.to (hF _ (by omega)) (fun _ _ => rfl), a5.to (hF _ (by omega)) (fun _ _ => rfl), a6.to (hF _ (by omega)) (fun _ _ => rfl), a7.to (hF _ (by omega)) (fun _ _ => rfl), a8.to (hF _ (by omega)) (fun _ _ => rfl), a9.to (hF _ (by omega)) (fun _ _ => rfl)⟩
section M9
variable {E : tb_env} {d : Nat} {h : tb_heap} {nx : Nat} {Q : Option Value → tb_heap → Nat → Prop} {m : Nat} {s : Nat → Nat} {kn : Int32} {g : sp_G} {po wr sp : Int32} {as ah cm od : Nat → Int32} {bf : Nat → Nat}
end M9
section M9b
variable {E : tb_env} {d : Nat} {h : tb_heap} {nx : Nat} {Q : Option Value → tb_heap → Nat → Prop}
variable {m kn : Nat} {s : Nat → Nat} {hs : Nat → Nat → Nat} {g : sp_G}
def an_stop (sa sb x : Int32) : Int32 := if x = 0 then sa else if x = nI 1 then sb else -2
end M9b
