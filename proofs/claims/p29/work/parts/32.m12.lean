/-! THE REFERENCE: orders read -/
def ps_ro (tx : Nat → Nat) (le c : Nat) (r : Bool × Nat) : Bool × Nat := if c = 46 then ps_num tx le 1 99 r else if c = 116 then ps_num tx le 0 90 (ps_t tx le 61 61 (ps_t tx le 48 52 r)) else if c = 112 then ps_num tx le 1 99 (ps_t tx le 42 42 (ps_t tx le 48 51 (ps_t tx le 48 55 (ps_t tx le 48 52 r)))) else ps_t tx le 48 52 r
def ps_rv (tx : Nat → Nat) (le c p : Nat) : ps_V := if c = 46 then (46, 0, 0, 0, ps_val tx le 99 p) else if c = 116 then (116, tx p - 48, 0, 0, ps_val tx le 90 (p + 2)) else if c = 112 then (112, tx p - 48, tx (p + 1) - 48, tx (p + 2) - 48, ps_val tx le 99 (p + 4)) else (c, tx p - 48, 0, 0, 0)
def ps_od (od : Nat → Int32) (v : ps_V) : Prop := od 0 = nI v.1 ∧ od 1 = nI v.2.1 ∧ od 2 = nI v.2.2.1 ∧ od 3 = nI v.2.2.2.1 ∧ od 4 = nI v.2.2.2.2
theorem tb_MG.upD {h h' : tb_heap} {m : Nat} {s : Nat → Nat} {kn : Int32} {g : sp_G} {po wr sp : Int32} {as ah cm od od' : Nat → Int32} {bf : Nat → Nat} (h0 : tb_MG h m s kn g po wr sp as ah cm od bf) (hA : tb_isA h' (m + 8) 0 5 od') (hF : ∀ q, q ≠ m + 8 → h' q = h q) : tb_MG h' m s kn g po wr sp as ah cm od' bf := by
  obtain ⟨a1, a2, a3, a4, a5, a6, a7, a8, a9⟩ := h0
  exact ⟨(hF m (by omega)).trans a1, a2.to (hF _ (by omega)) (fun _ _ => rfl), a3.to (hF _ (by omega)) (fun _ _ => rfl), a4.to (hF _ (by omega)) (fun _ _ => rfl), a5.to (hF _ (by omega)) (fun _ _ => rfl), a6.to (hF _ (by omega)) (fun _ _ => rfl), a7.to (hF _ (by omega)) (fun _ _ => rfl), a8.to (hF _ (by omega)) (fun _ _ => rfl), hA⟩
theorem tb_MP.stD {h : tb_heap} {m : Nat} {s : Nat → Nat} {kn : Int32} {g : sp_G} {r : Bool × Nat} {sp : Int32} {as ah cm od : Nat → Int32} {bf : Nat → Nat} (hM : tb_MP h m s kn g r sp as ah cm od bf) {j : Nat} {x : Int32} (hj : j < 5) {K : tb_heap → Prop} (hK : ∀ h', tb_MP h' m s kn g r sp as ah cm (upd od j x) bf → (∀ q, q ≠ m + 8 → h' q = h q) → K h') : tb_wF (tb_stv h 0 (m + 8) (nI j) x) K :=
  hM.2.2.2.2.2.2.2.2.st hj (by decide) (fun h' hA hF => hK h' (hM.upD hA hF) hF)
section M12
variable {E : tb_env} {d : Nat} {h : tb_heap} {nx : Nat} {Q : Option Value → tb_heap → Nat → Prop} {m : Nat} {s : Nat → Nat} {kn : Int32} {g : sp_G} {sp : Int32} {as ah cm od : Nat → Int32} {bf : Nat → Nat}
end M12
