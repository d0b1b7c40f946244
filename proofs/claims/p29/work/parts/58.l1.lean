/-! THE LAW: one order of the script -/
theorem tb_CF.fr {h h' : tb_heap} {x kn : Nat} {s : Nat → Nat} {hs : Nat → Nat → Nat} {g : sp_G} (hC : tb_CF h x s hs kn g) (hF : ∀ q, x ≤ q → q < x + 198 → h' q = h q) : tb_CF h' x s hs kn g := by
  obtain ⟨a1, a2, ⟨bs, a3⟩, a4, a5, a6, a7⟩ := hC
  exact ⟨(hF x (by omega) (by omega)).trans a1, a2.fr (fun q q1 q2 => hF q (by omega) (by omega)), ⟨bs, a3.fr (fun q q1 q2 => hF q (by omega) (by omega))⟩, a4.fr (fun q q1 q2 => hF q (by omega) (by omega)), a5.fr (fun q q1 q2 => hF q (by omega) (by omega)), a6.fr (fun q q1 q2 => hF q (by omega) (by omega)), a7.fr (fun q q1 q2 => hF q (by omega) (by omega))⟩
theorem tb_MF.fr {h h' : tb_heap} {m kn : Nat} {s : Nat → Nat} {hs : Nat → Nat → Nat} {g : sp_G} (hM : tb_MF h m s hs kn g) (hF : ∀ q, m ≤ q → q < m + 9 → h' q = h q) : tb_MF h' m s hs kn g := by
  obtain ⟨po, wr, sp, as, ah, cm, od, bf, ⟨a1, a2, a3, a4, a5, a6, a7, a8, a9⟩, hH⟩ := hM
  exact ⟨po, wr, sp, as, ah, cm, od, bf, ⟨(hF m (by omega) (by omega)).trans a1, a2.to (hF _ (by omega) (by omega)) (fun _ _ => rfl), a3.to (hF _ (by omega) (by omega)) (fun _ _ => rfl), a4.to (hF _ (by omega) (by omega)) (fun _ _ => rfl), a5.to (hF _ (by omega) (by omega)) (fun _ _ => rfl), a6.to (hF _ (by omega) (by omega)) (fun _ _ => rfl), a7.to (hF _ (by omega) (by omega)) (fun _ _ => rfl), a8.to (hF _ (by omega) (by omega)) (fun _ _ => rfl), a9.to (hF _ (by omega) (by omega)) (fun _ _ => rfl)⟩, hH⟩
theorem tb_MF.O {h : tb_heap} {m kn : Nat} {s : Nat → Nat} {hs : Nat → Nat → Nat} {g : sp_G} (hM : tb_MF h m s hs kn g) : tb_isO h m 6 := by
  obtain ⟨po, wr, sp, as, ah, cm, od, bf, hG, hH⟩ := hM
  exact hG.1.O
def lo_I (h : tb_heap) (x : Nat) (s : Nat → Nat) (hs : Nat → Nat → Nat) (kn : Nat) (g : sp_G) : Prop := tb_CF h x s hs kn g ∧ tb_MF h (x + 198) s hs kn g ∧ sp_W s ∧ (∀ i, i < kn → sp_W (hs i)) ∧ (g.2.1 = 0 ∨ (g.2.1 = 1 ∧ sp_W g.1)) ∧ g.2.2.2.1 ≤ 60 ∧ (∀ j, g.2.2.1 j < 65536)
def lo_B (E : tb_env) (h : tb_heap) (x b L : Nat) (xs : Nat → Int32) : Prop := tb_SX E h x ∧ b < x ∧ h b = none ∧ E.2.1 b = some (L, xs) ∧ L ≤ 260
theorem lo_B.fr {E : tb_env} {h h' : tb_heap} {x b L : Nat} {xs : Nat → Int32} (hB : lo_B E h x b L xs) (hF : ∀ q, q < x → h' q = h q) : lo_B E h' x b L xs := ⟨hB.1.fr hF, hB.2.1, (hF b hB.2.1).trans hB.2.2.1, hB.2.2.2⟩
theorem lo_B.ld {E : tb_env} {h : tb_heap} {x b L : Nat} {xs : Nat → Int32} (hB : lo_B E h x b L xs) {j : Nat} (hj : j < L) {K : Int32 → Prop} : tb_wF (tb_ld E h 0 b (nI j)) K = K (xs j) := by
  obtain ⟨_, _, hn, hE, hL⟩ := hB
  have e : tb_ld E h 0 b (nI j) = some (xs j) := by
    unfold tb_ld tb_ra
    rw [hn]
    dsimp only
    rw [if_pos rfl, hE]
    dsimp only
    rw [nI_clamp (by omega), if_neg (fun q => q.elim (fun q => by rw [e_lt0 (by omega)] at q; exact q) (fun q => by omega))]
  rw [e]
  rfl
theorem rec_W {hs : Nat → Nat → Nat} {kn : Nat} {s : Nat → Nat} (hH : ∀ i, i < kn → sp_W (hs i)) (hW : sp_W s) : ∀ i, i < (sp_rec hs kn s).2 → sp_W ((sp_rec hs kn s).1 i) := by
  intro i hi
  unfold sp_rec at hi ⊢
  by_cases c : kn = 4
  · rw [if_pos c] at hi ⊢
    dsimp only at hi ⊢
    split
    · exact hW
    · exact hH _ (by omega)
  · rw [if_neg c] at hi ⊢
    dsimp only at hi ⊢
    split
    · exact hW
    · exact hH _ (by omega)
theorem rc_W {r : Int32} {hs : Nat → Nat → Nat} {kn : Nat} {s : Nat → Nat} (hH : ∀ i, i < kn → sp_W (hs i)) (hW : sp_W s) : ∀ i, i < (sp_rc r hs kn s).2 → sp_W ((sp_rc r hs kn s).1 i) := by
  unfold sp_rc
  split
  · exact hH
  · exact rec_W hH hW
theorem e_i2c (v : Int32) : ∃ c, c < 65536 ∧ (v.toUInt32 % 65536).toInt32 = nI c := by
  refine ⟨(v.toUInt32 % 65536).toNat, ?_, ?_⟩
  · rw [UInt32.toNat_mod]
    exact Nat.mod_lt _ (by decide)
  · apply Int32.toInt_inj.mp
    have h1 : (v.toUInt32 % 65536).toNat < 65536 := by rw [UInt32.toNat_mod]; exact Nat.mod_lt _ (by decide)
    generalize v.toUInt32 % 65536 = u at *
    rw [nI_toInt (by omega)]
    show u.toBitVec.toInt = (u.toBitVec.toNat : Int)
    exact BitVec.toInt_eq_toNat_of_lt (by have : u.toNat = u.toBitVec.toNat := rfl; omega)
section LO
variable {E : tb_env} {d : Nat} {h : tb_heap} {nx bc bs : Nat} {Q : Option Value → tb_heap → Nat → Prop} {x b L i kn : Nat} {xs : Nat → Int32} {s : Nat → Nat} {hs : Nat → Nat → Nat} {g : sp_G}
end LO
