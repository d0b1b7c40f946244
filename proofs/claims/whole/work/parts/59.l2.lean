/-! THE LAW: its loop, its run -/
theorem e_and31 (v : Int32) : ∃ k, k < 32 ∧ (v &&& nI 31) = nI k := by
  have h1 : (v &&& nI 31).toBitVec.toNat < 32 := by
    show (v.toBitVec &&& (nI 31).toBitVec).toNat < 32
    rw [BitVec.toNat_and]
    exact Nat.lt_of_le_of_lt Nat.and_le_right (by decide)
  refine ⟨(v &&& nI 31).toBitVec.toNat, h1, ?_⟩
  generalize (v &&& nI 31) = u at *
  apply Int32.toInt_inj.mp
  rw [nI_toInt (by omega)]
  show u.toBitVec.toInt = (u.toBitVec.toNat : Int)
  exact BitVec.toInt_eq_toNat_of_lt (by omega)
section LP
variable {E : tb_env} {d : Nat} {nx bc bs : Nat} {Q : Option Value → tb_heap → Nat → Prop} {x b L : Nat} {xs : Nat → Int32}
theorem lo_B.ra {h : tb_heap} (hB : lo_B E h x b L xs) {K : Nat × (Nat → Int32) → Prop} : tb_wF (tb_ra E h 0 b) K = K (L, xs) := by
  have e : tb_ra E h 0 b = some (L, xs) := by
    unfold tb_ra
    rw [hB.2.2.1]
    dsimp only
    rw [if_pos rfl, hB.2.2.2.1]
  rw [e]
  rfl
theorem lo_loop (hd : 10 ≤ d) (hQ : ∀ h', Q (some (.int (nI 1))) h' nx) (n : Nat) : ∀ (i : Nat) (h : tb_heap) (s : Nat → Nat) (hs : Nat → Nat → Nat) (kn : Nat) (g : sp_G), L ≤ i + n → i ≤ L + 5 → lo_I h x s hs kn g → lo_B E h x b L xs → tb_wp E d 156 18 [.ref b, .ref x, .ref (x + 198), .int (nI i)] [] h nx bc bs Q := by
  induction n with
  | zero =>
    intro i h s hs kn g hn hi hI hB
    have hL := hB.2.2.2.2
    have hlt : nI L - nI 5 < nI i := by
      by_cases c : 5 ≤ L
      · rw [e_sub c, e_lt (by omega) (by omega)]; omega
      · have h1 : nI L - nI 5 < 0 := by rw [e_neg (by omega) (by decide)]; trivial
        have h2 : 0 ≤ nI i := by rw [e_0le (by omega)]; trivial
        exact Int32.lt_of_lt_of_le h1 h2
    simp (disch := first | assumption | omega | exact tb_sm0 | exact tb_sm1 _ | exact tb_sm2 _ _ | exact tb_sm3 _ _ _ | exact tb_sm4 _ _ _ _ | exact Or.inl rfl | exact Or.inr rfl | fail) only [r156_18, r156_19, r156_20, r156_21, r156_22, r156_23, hB.ra, hlt, tb_vl_some, tb_vl_none, tb_wF_some, if_true, ↓reduceIte]
    simp (disch := first | assumption | omega | exact tb_sm0 | exact tb_sm1 _ | exact tb_sm2 _ _ | exact tb_sm3 _ _ _ | exact tb_sm4 _ _ _ _ | exact Or.inl rfl | exact Or.inr rfl | fail) only [r156_914, r156_915]
    exact hQ h
  | succ n ih =>
    intro i h s hs kn g hn hi hI hB
    have hL := hB.2.2.2.2
    by_cases hc : i + 5 ≤ L
    · have hlt : ¬ nI L - nI 5 < nI i := by rw [e_sub (by omega), e_lt (by omega) (by omega)]; omega
      have next : ∀ h' s' hs' kn' g', lo_I h' x s' hs' kn' g' → (∀ q, q < x → h' q = h q) → tb_wp E d 156 908 [.ref b, .ref x, .ref (x + 198), .int (nI i)] [] h' nx bc bs Q := by
        intro h' s' hs' kn' g' hI' hF'
        simp (disch := first | assumption | omega | exact tb_sm0 | exact tb_sm1 _ | exact tb_sm2 _ _ | exact tb_sm3 _ _ _ | exact tb_sm4 _ _ _ _ | exact Or.inl rfl | exact Or.inr rfl | fail) only [r156_908, r156_911, nI_add]
        exact ih (i + 5) h' s' hs' kn' g' (by omega) (by omega) hI' (hB.fr hF')
      have ld1 := fun {j : Nat} (hj : j < L) {K : Int32 → Prop} => hB.ld hj (K := K)
      obtain ⟨k, hk, ek⟩ := e_and31 (xs i)
      simp (disch := first | assumption | omega | exact tb_sm0 | exact tb_sm1 _ | exact tb_sm2 _ _ | exact tb_sm3 _ _ _ | exact tb_sm4 _ _ _ _ | exact Or.inl rfl | exact Or.inr rfl | fail) only [r156_18, r156_19, r156_20, r156_21, r156_22, r156_23, r156_26, r156_27, r156_28, r156_29, r156_31, hB.ra, hlt, ld1, ek, tb_vl_some, tb_vl_none, tb_wF_some, if_false, ↓reduceIte]
      by_cases hk25 : 25 < k
      · have hx : (nI k).toInt < 0 ∨ 25 < (nI k).toInt := Or.inr (by rw [nI_toInt (by omega)]; omega)
        rw [r156_32_d hx]
        exact next h s hs kn g hI (fun _ _ => rfl)
      · have cs : k = 0 ∨ k = 1 ∨ k = 2 ∨ k = 3 ∨ k = 4 ∨ k = 5 ∨ k = 6 ∨ k = 7 ∨ k = 8 ∨ k = 9 ∨ k = 10 ∨ k = 11 ∨ k = 12 ∨ k = 13 ∨ k = 14 ∨ k = 15 ∨ k = 16 ∨ k = 17 ∨ k = 18 ∨ k = 19 ∨ k = 20 ∨ k = 21 ∨ k = 22 ∨ k = 23 ∨ k = 24 ∨ k = 25 := by omega
        rcases cs with rfl | rfl | rfl | rfl | rfl | rfl | rfl | rfl | rfl | rfl | rfl | rfl | rfl | rfl | rfl | rfl | rfl | rfl | rfl | rfl | rfl | rfl | rfl | rfl | rfl | rfl
        · rw [r156_32_0]
          exact op_0 hI hB hc hd next
        · rw [r156_32_1]
          exact op_1 hI hB hc hd next
        · rw [r156_32_2]
          exact op_2 hI hB hc hd next
        · rw [r156_32_3]
          exact op_3 hI hB hc hd next
        · rw [r156_32_4]
          exact op_4 hI hB hc hd next
        · rw [r156_32_5]
          exact op_5 hI hB hc hd next
        · rw [r156_32_6]
          exact op_6 hI hB hc hd next
        · rw [r156_32_7]
          exact op_7 hI hB hc hd next
        · rw [r156_32_8]
          exact op_8 hI hB hc hd next
        · rw [r156_32_9]
          exact op_9 hI hB hc hd next
        · rw [r156_32_10]
          exact op_10 hI hB hc hd next
        · rw [r156_32_11]
          exact op_11 hI hB hc hd next
        · rw [r156_32_12]
          exact op_12 hI hB hc hd next
        · rw [r156_32_13]
          exact op_13 hI hB hc hd next
        · rw [r156_32_14]
          exact op_14 hI hB hc hd next
        · rw [r156_32_15]
          exact op_15 hI hB hc hd next
        · rw [r156_32_16]
          exact op_16 hI hB hc hd next
        · rw [r156_32_17]
          exact op_17 hI hB hc hd next
        · rw [r156_32_18]
          exact op_18 hI hB hc hd next
        · rw [r156_32_19]
          exact op_19 hI hB hc hd next
        · rw [r156_32_20]
          exact op_20 hI hB hc hd next
        · rw [r156_32_21]
          exact op_21 hI hB hc hd next
        · rw [r156_32_22]
          exact op_22 hI hB hc hd next
        · rw [r156_32_23]
          exact op_23 hI hB hc hd next
        · rw [r156_32_24]
          exact op_24 hI hB hc hd next
        · rw [r156_32_25]
          exact op_25 hI hB hc hd next
    · have hlt : nI L - nI 5 < nI i := by
        by_cases c : 5 ≤ L
        · rw [e_sub c, e_lt (by omega) (by omega)]; omega
        · have h1 : nI L - nI 5 < 0 := by rw [e_neg (by omega) (by decide)]; trivial
          have h2 : 0 ≤ nI i := by rw [e_0le (by omega)]; trivial
          exact Int32.lt_of_lt_of_le h1 h2
      simp (disch := first | assumption | omega | exact tb_sm0 | exact tb_sm1 _ | exact tb_sm2 _ _ | exact tb_sm3 _ _ _ | exact tb_sm4 _ _ _ _ | exact Or.inl rfl | exact Or.inr rfl | fail) only [r156_18, r156_19, r156_20, r156_21, r156_22, r156_23, hB.ra, hlt, tb_vl_some, tb_vl_none, tb_wF_some, if_true, ↓reduceIte]
      simp (disch := first | assumption | omega | exact tb_sm0 | exact tb_sm1 _ | exact tb_sm2 _ _ | exact tb_sm3 _ _ _ | exact tb_sm4 _ _ _ _ | exact Or.inl rfl | exact Or.inr rfl | fail) only [r156_914, r156_915]
      exact hQ h
end LP
theorem tb_main : tb_goal := by
  intro E b L xs hL hlo hE hst
  have lo : ∀ k, k < 4 → E.1 k < E.2.2 := by
    intro k hk
    obtain ⟨s0, s1, s2, s3⟩ := hst
    rcases (by omega : k = 0 ∨ k = 1 ∨ k = 2 ∨ k = 3) with rfl | rfl | rfl | rfl
    · exact hlo _ _ s0
    · exact hlo _ _ s1
    · exact hlo _ _ s2
    · exact hlo _ _ s3
  have hb := hlo _ _ hE
  have run : tb_wp E 11 156 0 [.ref b, .long 0, .long 0, .long 0] [] (fun _ => none) E.2.2 600000 7302250 (fun v _ _ => v = some (.int (nI 1))) := by
    simp (disch := first | assumption | omega | exact tb_sm0 | exact tb_sm1 _ | exact tb_sm2 _ _ | exact tb_sm3 _ _ _ | exact tb_sm4 _ _ _ _ | exact Or.inl rfl | exact Or.inr rfl | fail) only [r156_0, r156_3i, r156_3, r156_4, Nat.reduceSub]
    refine class_init (hs := fun _ _ => 0) tb_up_s ⟨⟨hst, fun k hk => tb_up_n (by have := lo k hk; omega)⟩, lo⟩ (by decide) (fun h1 hC1 hF1 => ?_)
    have f1 : ∀ q, q < E.2.2 → h1 q = none := fun q hq => (hF1 q (Or.inl hq)).trans (tb_up_n (by omega))
    simp (disch := first | assumption | omega | exact tb_sm0 | exact tb_sm1 _ | exact tb_sm2 _ _ | exact tb_sm3 _ _ _ | exact tb_sm4 _ _ _ _ | exact Or.inl rfl | exact Or.inr rfl | fail) only [r156_7, r156_8, r156_11i, r156_11, r156_12, tb_vl_some, tb_vl_none, tb_wF_some, Nat.reduceAdd, Nat.reduceSub]
    refine model_init (hs := fun _ _ => 0) tb_up_s (by decide) (fun h2 hM2 hF2 => ?_)
    have f2 : ∀ q, q < E.2.2 + 198 → h2 q = h1 q := fun q hq => (hF2 q (Or.inl hq)).trans (tb_up_n (by omega))
    simp (disch := first | assumption | omega | exact tb_sm0 | exact tb_sm1 _ | exact tb_sm2 _ _ | exact tb_sm3 _ _ _ | exact tb_sm4 _ _ _ _ | exact Or.inl rfl | exact Or.inr rfl | fail) only [r156_15, r156_16, r156_17, tb_vl_some, tb_vl_none, tb_wF_some, Nat.reduceAdd, Nat.reduceSub]
    refine lo_loop (L := L) (xs := xs) (by decide) (fun _ => rfl) L 0 h2 sp_0 (fun _ _ => 0) 0 sp_g0 (by omega) (by omega) ⟨hC1.fr (fun q q1 q2 => f2 q (by omega)), hM2, W_0, fun i hi => by omega, Or.inl rfl, by decide, fun j => by show 0 < 65536; decide⟩ ⟨⟨⟨hst, fun k hk => by have := lo k hk; rw [f2 _ (by omega)]; exact f1 _ this⟩, lo⟩, hb, by rw [f2 _ (by omega)]; exact f1 _ hb, hE, hL⟩
  obtain ⟨f, z, h1, h2⟩ := run
  refine ⟨f, z.2.1, z.2.2, ?_⟩
  have e : z = (some (.int 1), z.2.1, z.2.2) := Prod.ext h2 rfl
  rw [← e]
  exact h1
