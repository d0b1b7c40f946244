/-! THE LAW: one order of the script -/
theorem tb_CF.fr {h h' : tb_heap} {x kn : Nat} {s : Nat → Nat} {hs : Nat → Nat → Nat} {g : sp_G} (hC : tb_CF h x s hs kn g) (hF : ∀ q, x ≤ q → q < x + 198 → h' q = h q) : tb_CF h' x s hs kn g := by
  obtain ⟨a1, a2, ⟨bs, a3⟩, a4, a5, a6, a7⟩ := hC
  exact ⟨(hF x (by omega) (by omega)).trans a1, a2.fr (fun q q1 q2 => hF q (by omega) (by omega)), ⟨bs, a3.fr (fun q q1 q2 => hF q (by omega) (by omega))⟩, a4.fr (fun q q1 q2 => hF q (by omega) (by omega)), a5.fr (fun q q1 q2 => hF q (by omega) (by omega)), a6.fr (fun q q1 q2 => hF q (by omega) (by omega)), a7.fr (fun q q1 q2 => hF q (by omega) (by omega))⟩
theorem tb_MF.fr {h h' : tb_heap} {m kn : Nat} {s : Nat → Nat} {hs : Nat → Nat → Nat} {g : sp_G} (hM : tb_MF h m s hs kn g) (hF : ∀ q, m ≤ q → q < m + 9 → h' q = h q) : tb_MF h' m s hs kn g := by
  obtain ⟨po, wr, sp, as, ah, cm, od, bf, ⟨a1, a2, a3, a4, a5, a6, a7, a8, a9⟩, hH⟩ := hM
  exact ⟨po, wr, sp, as, ah, cm, od, bf, ⟨(hF m (by omega) (by omega)).trans a1, a2.to (hF _ (by omega) (by omega)) (fun _ _ => rfl), a3.to (hF _ (by omega) (by omega)) (fun _ _ => rfl), a4.to (hF _ (by omega) (by omega)) (fun _ _ => rfl), a5.to (hF _ (by omega) (by omega)) (fun _ _ => rfl), a6.to (hF _ (by omega) (by omega)) (fun _ _ => rfl), a7.to (hF _ (by omega) (by omega)) (fun _ _ => rfl), a8.to (hF _ (by omega) (by omega)) (fun _ _ => rfl), a9.to (hF _ (by omega) (by omega)) (fun _ _ => rfl)⟩, hH⟩
theorem tb_MF.O {h : tb_heap} {m kn : Nat} {s : Nat → Nat} {hs : Nat → Nat → Nat} {g : sp_G} (hM : tb_MF h m s hs kn g) : tb_isO h m 6 := by
  obtain ⟨po, wr, sp, as, ah, cm, od, bf, hG, hH⟩ := hM
  exact hG.1.O
def lo_I (h : tb_heap) (x : Nat) (s : Nat → Nat) (hs : Nat → Nat → Nat) (kn : Nat) (g : sp_G) : Prop := tb_CF h x s hs kn g ∧ tb_MF h (x + 198) s hs kn g ∧ sp_W s ∧ (∀ i, i < kn → sp_W (hs i)) ∧ (g.2.1 = 0 ∨ (g.2.1 = 1 ∧ sp_W g.1)) ∧ g.2.2.2.1 ≤ 60 ∧ (∀ j, g.2.2.1 j < 65536)
def lo_B (E : tb_env) (h : tb_heap) (x b L : Nat) (xs : Nat → Int32) : Prop := tb_SX E h x ∧ b < x ∧ h b = none ∧ E.2.1 b = some (L, xs) ∧ L ≤ 2560
theorem lo_B.fr {E : tb_env} {h h' : tb_heap} {x b L : Nat} {xs : Nat → Int32} (hB : lo_B E h x b L xs) (hF : ∀ q, q < x → h' q = h q) : lo_B E h' x b L xs := ⟨hB.1.fr hF, hB.2.1, (hF b hB.2.1).trans hB.2.2.1, hB.2.2.2⟩
theorem lo_B.ld {E : tb_env} {h : tb_heap} {x b L : Nat} {xs : Nat → Int32} (hB : lo_B E h x b L xs) {j : Nat} (hj : j < L) {K : Int32 → Prop} : tb_wF (tb_ld E h 0 b (nI j)) K = K (xs j) := by
  obtain ⟨_, _, hn, hE, hL⟩ := hB
  have e : tb_ld E h 0 b (nI j) = some (xs j) := by
    unfold tb_ld tb_ra
    rw [hn]
    dsimp only
    rw [if_pos rfl, hE]
    dsimp only
    rw [nI_clamp (by omega), if_neg (fun q => q.elim (fun q => by rw [e_lt0 (by omega)] at q; exact q) (fun q => by omega))]
  rw [e]
  rfl
theorem rec_W {hs : Nat → Nat → Nat} {kn : Nat} {s : Nat → Nat} (hH : ∀ i, i < kn → sp_W (hs i)) (hW : sp_W s) : ∀ i, i < (sp_rec hs kn s).2 → sp_W ((sp_rec hs kn s).1 i) := by
  intro i hi
  unfold sp_rec at hi ⊢
  by_cases c : kn = 4
  · rw [if_pos c] at hi ⊢
    dsimp only at hi ⊢
    split
    · exact hW
    · exact hH _ (by omega)
  · rw [if_neg c] at hi ⊢
    dsimp only at hi ⊢
    split
    · exact hW
    · exact hH _ (by omega)
theorem rc_W {r : Int32} {hs : Nat → Nat → Nat} {kn : Nat} {s : Nat → Nat} (hH : ∀ i, i < kn → sp_W (hs i)) (hW : sp_W s) : ∀ i, i < (sp_rc r hs kn s).2 → sp_W ((sp_rc r hs kn s).1 i) := by
  unfold sp_rc
  split
  · exact hH
  · exact rec_W hH hW
theorem e_i2c (v : Int32) : ∃ c, c < 65536 ∧ (v.toUInt32 % 65536).toInt32 = nI c := by
  refine ⟨(v.toUInt32 % 65536).toNat, ?_, ?_⟩
  · rw [UInt32.toNat_mod]
    exact Nat.mod_lt _ (by decide)
  · apply Int32.toInt_inj.mp
    have h1 : (v.toUInt32 % 65536).toNat < 65536 := by rw [UInt32.toNat_mod]; exact Nat.mod_lt _ (by decide)
    generalize v.toUInt32 % 65536 = u at *
    rw [nI_toInt (by omega)]
    show u.toBitVec.toInt = (u.toBitVec.toNat : Int)
    exact BitVec.toInt_eq_toNat_of_lt (by have : u.toNat = u.toBitVec.toNat := rfl; omega)
section LO
variable {E : tb_env} {d : Nat} {h : tb_heap} {nx bc bs : Nat} {Q : Option Value → tb_heap → Nat → Prop} {x b L i kn : Nat} {xs : Nat → Int32} {s : Nat → Nat} {hs : Nat → Nat → Nat} {g : sp_G}
theorem op_0 (hI : lo_I h x s hs kn g) (hB : lo_B E h x b L xs) (hi : i + 5 ≤ L) (hd : 10 ≤ d) (hQ : ∀ h' s' hs' kn' g', lo_I h' x s' hs' kn' g' → (∀ q, q < x → h' q = h q) → tb_wp E d 156 908 [.ref b, .ref x, .ref (x + 198), .int (nI i)] [] h' nx bc bs Q) :
    tb_wp E d 156 152 [.ref b, .ref x, .ref (x + 198), .int (nI i)] [] h nx bc bs Q := by
  obtain ⟨hC, hM, hW, hH, hS, hT6, hTx⟩ := hI
  have oC := hC.1.O
  have oM := hM.O
  have hL31 : L ≤ 2560 := hB.2.2.2.2
  have ld1 := fun {j : Nat} (hj : j < L) {K : Int32 → Prop} => hB.ld hj (K := K)
  simp (disch := first | assumption | omega | exact tb_sm0 | exact tb_sm1 _ | exact tb_sm2 _ _ | exact tb_sm3 _ _ _ | exact tb_sm4 _ _ _ _ | exact Or.inl rfl | exact Or.inr rfl | fail) only [r156_152, r156_153, r156_154, r156_155, r156_156, r156_157, r156_158, r156_159, r156_160, r156_161, r156_162, r156_163, ld1, nI_add, tb_vl_some, tb_vl_none, tb_wF_some]
  refine k_tilt hC hW (by omega) (fun h2 hC2 hF2 => ?_)
  have hB2 := hB.fr (fun q hq => hF2 q (by omega))
  have hM2 := hM.fr (h' := h2) (fun q q1 q2 => hF2 q (by omega))
  have oM2 := hM2.O
  have ld2 := fun {j : Nat} (hj : j < L) {K : Int32 → Prop} => hB2.ld hj (K := K)
  try simp (disch := first | assumption | omega | exact tb_sm0 | exact tb_sm1 _ | exact tb_sm2 _ _ | exact tb_sm3 _ _ _ | exact tb_sm4 _ _ _ _ | exact Or.inl rfl | exact Or.inr rfl | fail) only [r156_166, r156_167, r156_168, r156_169, r156_170, r156_171, r156_172, r156_173, r156_174, r156_175, r156_176, r156_177, ld2, nI_add, tb_vl_some, tb_vl_none, tb_wF_some]
  refine m_tilt hM2 hW.1 (by omega) (fun h3 hM3 hF3 => ?_)
  try simp (disch := first | assumption | omega | exact tb_sm0 | exact tb_sm1 _ | exact tb_sm2 _ _ | exact tb_sm3 _ _ _ | exact tb_sm4 _ _ _ _ | exact Or.inl rfl | exact Or.inr rfl | fail) only [r156_180, tb_vl_some, tb_vl_none, tb_wF_some, eq_self, if_true, ↓reduceIte]
  have hC3 := hC2.fr (h' := h3) (fun q q1 q2 => hF3 q (by omega))
  exact hQ h3 _ _ _ _ ⟨hC3, hM3, W_tilt hW _ _, rc_W hH hW, hS, hT6, hTx⟩ (fun q hq => by rw [hF3 q (by omega), hF2 q (by omega)])
theorem op_1 (hI : lo_I h x s hs kn g) (hB : lo_B E h x b L xs) (hi : i + 5 ≤ L) (hd : 10 ≤ d) (hQ : ∀ h' s' hs' kn' g', lo_I h' x s' hs' kn' g' → (∀ q, q < x → h' q = h q) → tb_wp E d 156 908 [.ref b, .ref x, .ref (x + 198), .int (nI i)] [] h' nx bc bs Q) :
    tb_wp E d 156 185 [.ref b, .ref x, .ref (x + 198), .int (nI i)] [] h nx bc bs Q := by
  obtain ⟨hC, hM, hW, hH, hS, hT6, hTx⟩ := hI
  have oC := hC.1.O
  have oM := hM.O
  have hL31 : L ≤ 2560 := hB.2.2.2.2
  have ld1 := fun {j : Nat} (hj : j < L) {K : Int32 → Prop} => hB.ld hj (K := K)
  simp (disch := first | assumption | omega | exact tb_sm0 | exact tb_sm1 _ | exact tb_sm2 _ _ | exact tb_sm3 _ _ _ | exact tb_sm4 _ _ _ _ | exact Or.inl rfl | exact Or.inr rfl | fail) only [r156_185, r156_186, r156_187, r156_188, r156_189, r156_190, r156_191, r156_192, r156_193, r156_194, r156_195, r156_196, r156_197, r156_198, r156_199, r156_200, r156_201, r156_202, r156_203, r156_204, r156_205, r156_206, ld1, nI_add, tb_vl_some, tb_vl_none, tb_wF_some]
  refine k_pour hC hW (by omega) (fun h2 hC2 hF2 => ?_)
  have hB2 := hB.fr (fun q hq => hF2 q (by omega))
  have hM2 := hM.fr (h' := h2) (fun q q1 q2 => hF2 q (by omega))
  have oM2 := hM2.O
  have ld2 := fun {j : Nat} (hj : j < L) {K : Int32 → Prop} => hB2.ld hj (K := K)
  try simp (disch := first | assumption | omega | exact tb_sm0 | exact tb_sm1 _ | exact tb_sm2 _ _ | exact tb_sm3 _ _ _ | exact tb_sm4 _ _ _ _ | exact Or.inl rfl | exact Or.inr rfl | fail) only [r156_209, r156_210, r156_211, r156_212, r156_213, r156_214, r156_215, r156_216, r156_217, r156_218, r156_219, r156_220, r156_221, r156_222, r156_223, r156_224, r156_225, r156_226, r156_227, r156_228, r156_229, r156_230, ld2, nI_add, tb_vl_some, tb_vl_none, tb_wF_some]
  refine m_pour hM2 hW.1 (by omega) (fun h3 hM3 hF3 => ?_)
  try simp (disch := first | assumption | omega | exact tb_sm0 | exact tb_sm1 _ | exact tb_sm2 _ _ | exact tb_sm3 _ _ _ | exact tb_sm4 _ _ _ _ | exact Or.inl rfl | exact Or.inr rfl | fail) only [r156_233, tb_vl_some, tb_vl_none, tb_wF_some, eq_self, if_true, ↓reduceIte]
  have hC3 := hC2.fr (h' := h3) (fun q q1 q2 => hF3 q (by omega))
  exact hQ h3 _ _ _ _ ⟨hC3, hM3, W_pour hW _ _ _ _, rc_W hH hW, hS, hT6, hTx⟩ (fun q hq => by rw [hF3 q (by omega), hF2 q (by omega)])
theorem op_2 (hI : lo_I h x s hs kn g) (hB : lo_B E h x b L xs) (hi : i + 5 ≤ L) (hd : 10 ≤ d) (hQ : ∀ h' s' hs' kn' g', lo_I h' x s' hs' kn' g' → (∀ q, q < x → h' q = h q) → tb_wp E d 156 908 [.ref b, .ref x, .ref (x + 198), .int (nI i)] [] h' nx bc bs Q) :
    tb_wp E d 156 238 [.ref b, .ref x, .ref (x + 198), .int (nI i)] [] h nx bc bs Q := by
  obtain ⟨hC, hM, hW, hH, hS, hT6, hTx⟩ := hI
  have oC := hC.1.O
  have oM := hM.O
  have hL31 : L ≤ 2560 := hB.2.2.2.2
  have ld1 := fun {j : Nat} (hj : j < L) {K : Int32 → Prop} => hB.ld hj (K := K)
  simp (disch := first | assumption | omega | exact tb_sm0 | exact tb_sm1 _ | exact tb_sm2 _ _ | exact tb_sm3 _ _ _ | exact tb_sm4 _ _ _ _ | exact Or.inl rfl | exact Or.inr rfl | fail) only [r156_238, r156_239, r156_240, r156_241, r156_242, r156_243, r156_244, ld1, nI_add, tb_vl_some, tb_vl_none, tb_wF_some]
  refine k_jolt hC hW (by omega) (fun h2 hC2 hF2 => ?_)
  have hB2 := hB.fr (fun q hq => hF2 q (by omega))
  have hM2 := hM.fr (h' := h2) (fun q q1 q2 => hF2 q (by omega))
  have oM2 := hM2.O
  have ld2 := fun {j : Nat} (hj : j < L) {K : Int32 → Prop} => hB2.ld hj (K := K)
  try simp (disch := first | assumption | omega | exact tb_sm0 | exact tb_sm1 _ | exact tb_sm2 _ _ | exact tb_sm3 _ _ _ | exact tb_sm4 _ _ _ _ | exact Or.inl rfl | exact Or.inr rfl | fail) only [r156_247, r156_248, r156_249, r156_250, r156_251, r156_252, r156_253, ld2, nI_add, tb_vl_some, tb_vl_none, tb_wF_some]
  refine m_jolt hM2 hW.1 (by omega) (fun h3 hM3 hF3 => ?_)
  try simp (disch := first | assumption | omega | exact tb_sm0 | exact tb_sm1 _ | exact tb_sm2 _ _ | exact tb_sm3 _ _ _ | exact tb_sm4 _ _ _ _ | exact Or.inl rfl | exact Or.inr rfl | fail) only [r156_256, tb_vl_some, tb_vl_none, tb_wF_some, eq_self, if_true, ↓reduceIte]
  have hC3 := hC2.fr (h' := h3) (fun q q1 q2 => hF3 q (by omega))
  exact hQ h3 _ _ _ _ ⟨hC3, hM3, W_jolt hW _, rc_W hH hW, hS, hT6, hTx⟩ (fun q hq => by rw [hF3 q (by omega), hF2 q (by omega)])
theorem op_3 (hI : lo_I h x s hs kn g) (hB : lo_B E h x b L xs) (hi : i + 5 ≤ L) (hd : 10 ≤ d) (hQ : ∀ h' s' hs' kn' g', lo_I h' x s' hs' kn' g' → (∀ q, q < x → h' q = h q) → tb_wp E d 156 908 [.ref b, .ref x, .ref (x + 198), .int (nI i)] [] h' nx bc bs Q) :
    tb_wp E d 156 261 [.ref b, .ref x, .ref (x + 198), .int (nI i)] [] h nx bc bs Q := by
  obtain ⟨hC, hM, hW, hH, hS, hT6, hTx⟩ := hI
  have oC := hC.1.O
  have oM := hM.O
  have hL31 : L ≤ 2560 := hB.2.2.2.2
  have ld1 := fun {j : Nat} (hj : j < L) {K : Int32 → Prop} => hB.ld hj (K := K)
  simp (disch := first | assumption | omega | exact tb_sm0 | exact tb_sm1 _ | exact tb_sm2 _ _ | exact tb_sm3 _ _ _ | exact tb_sm4 _ _ _ _ | exact Or.inl rfl | exact Or.inr rfl | fail) only [r156_261, r156_262, r156_263, r156_264, r156_265, r156_266, r156_267, ld1, nI_add, tb_vl_some, tb_vl_none, tb_wF_some]
  refine k_emptyPan hC hW (by omega) (fun h2 hC2 hF2 => ?_)
  have hB2 := hB.fr (fun q hq => hF2 q (by omega))
  have hM2 := hM.fr (h' := h2) (fun q q1 q2 => hF2 q (by omega))
  have oM2 := hM2.O
  have ld2 := fun {j : Nat} (hj : j < L) {K : Int32 → Prop} => hB2.ld hj (K := K)
  try simp (disch := first | assumption | omega | exact tb_sm0 | exact tb_sm1 _ | exact tb_sm2 _ _ | exact tb_sm3 _ _ _ | exact tb_sm4 _ _ _ _ | exact Or.inl rfl | exact Or.inr rfl | fail) only [r156_270, r156_271, r156_272, r156_273, r156_274, r156_275, r156_276, ld2, nI_add, tb_vl_some, tb_vl_none, tb_wF_some]
  refine m_emptyPan hM2 hW.2 (by omega) (fun h3 hM3 hF3 => ?_)
  try simp (disch := first | assumption | omega | exact tb_sm0 | exact tb_sm1 _ | exact tb_sm2 _ _ | exact tb_sm3 _ _ _ | exact tb_sm4 _ _ _ _ | exact Or.inl rfl | exact Or.inr rfl | fail) only [r156_279, tb_vl_some, tb_vl_none, tb_wF_some, eq_self, if_true, ↓reduceIte]
  have hC3 := hC2.fr (h' := h3) (fun q q1 q2 => hF3 q (by omega))
  exact hQ h3 _ _ _ _ ⟨hC3, hM3, W_empty hW _, rc_W hH hW, hS, hT6, hTx⟩ (fun q hq => by rw [hF3 q (by omega), hF2 q (by omega)])
theorem op_4 (hI : lo_I h x s hs kn g) (hB : lo_B E h x b L xs) (hi : i + 5 ≤ L) (hd : 10 ≤ d) (hQ : ∀ h' s' hs' kn' g', lo_I h' x s' hs' kn' g' → (∀ q, q < x → h' q = h q) → tb_wp E d 156 908 [.ref b, .ref x, .ref (x + 198), .int (nI i)] [] h' nx bc bs Q) :
    tb_wp E d 156 284 [.ref b, .ref x, .ref (x + 198), .int (nI i)] [] h nx bc bs Q := by
  obtain ⟨hC, hM, hW, hH, hS, hT6, hTx⟩ := hI
  have oC := hC.1.O
  have oM := hM.O
  have hL31 : L ≤ 2560 := hB.2.2.2.2
  have ld1 := fun {j : Nat} (hj : j < L) {K : Int32 → Prop} => hB.ld hj (K := K)
  simp (disch := first | assumption | omega | exact tb_sm0 | exact tb_sm1 _ | exact tb_sm2 _ _ | exact tb_sm3 _ _ _ | exact tb_sm4 _ _ _ _ | exact Or.inl rfl | exact Or.inr rfl | fail) only [r156_284, r156_285, r156_286, r156_287, r156_288, r156_289, r156_290, r156_291, r156_292, r156_293, r156_294, r156_295, ld1, nI_add, tb_vl_some, tb_vl_none, tb_wF_some]
  refine k_setGrip hC hW (by omega) (fun h2 hC2 hF2 => ?_)
  have hB2 := hB.fr (fun q hq => hF2 q (by omega))
  have hM2 := hM.fr (h' := h2) (fun q q1 q2 => hF2 q (by omega))
  have oM2 := hM2.O
  have ld2 := fun {j : Nat} (hj : j < L) {K : Int32 → Prop} => hB2.ld hj (K := K)
  try simp (disch := first | assumption | omega | exact tb_sm0 | exact tb_sm1 _ | exact tb_sm2 _ _ | exact tb_sm3 _ _ _ | exact tb_sm4 _ _ _ _ | exact Or.inl rfl | exact Or.inr rfl | fail) only [r156_298, r156_299, r156_300, r156_301, r156_302, r156_303, r156_304, r156_305, r156_306, r156_307, r156_308, r156_309, ld2, nI_add, tb_vl_some, tb_vl_none, tb_wF_some]
  refine m_setGrip hM2 hW.1 (by omega) (fun h3 hM3 hF3 => ?_)
  try simp (disch := first | assumption | omega | exact tb_sm0 | exact tb_sm1 _ | exact tb_sm2 _ _ | exact tb_sm3 _ _ _ | exact tb_sm4 _ _ _ _ | exact Or.inl rfl | exact Or.inr rfl | fail) only [r156_312, tb_vl_some, tb_vl_none, tb_wF_some, eq_self, if_true, ↓reduceIte]
  have hC3 := hC2.fr (h' := h3) (fun q q1 q2 => hF3 q (by omega))
  exact hQ h3 _ _ _ _ ⟨hC3, hM3, W_grip hW _ _, rc_W hH hW, hS, hT6, hTx⟩ (fun q hq => by rw [hF3 q (by omega), hF2 q (by omega)])
theorem op_5 (hI : lo_I h x s hs kn g) (hB : lo_B E h x b L xs) (hi : i + 5 ≤ L) (hd : 10 ≤ d) (hQ : ∀ h' s' hs' kn' g', lo_I h' x s' hs' kn' g' → (∀ q, q < x → h' q = h q) → tb_wp E d 156 908 [.ref b, .ref x, .ref (x + 198), .int (nI i)] [] h' nx bc bs Q) :
    tb_wp E d 156 317 [.ref b, .ref x, .ref (x + 198), .int (nI i)] [] h nx bc bs Q := by
  obtain ⟨hC, hM, hW, hH, hS, hT6, hTx⟩ := hI
  have oC := hC.1.O
  have oM := hM.O
  have hL31 : L ≤ 2560 := hB.2.2.2.2
  have ld1 := fun {j : Nat} (hj : j < L) {K : Int32 → Prop} => hB.ld hj (K := K)
  simp (disch := first | assumption | omega | exact tb_sm0 | exact tb_sm1 _ | exact tb_sm2 _ _ | exact tb_sm3 _ _ _ | exact tb_sm4 _ _ _ _ | exact Or.inl rfl | exact Or.inr rfl | fail) only [r156_317, r156_318, r156_319, r156_320, r156_321, r156_322, r156_323, r156_324, r156_325, r156_326, r156_327, r156_328, ld1, nI_add, tb_vl_some, tb_vl_none, tb_wF_some]
  refine k_set hC hW hB.1 (by omega) (fun h2 hC2 hF2 => ?_)
  have hB2 := hB.fr (fun q hq => hF2 q (by omega))
  have hM2 := hM.fr (h' := h2) (fun q q1 q2 => hF2 q (by omega))
  have oM2 := hM2.O
  have ld2 := fun {j : Nat} (hj : j < L) {K : Int32 → Prop} => hB2.ld hj (K := K)
  try simp (disch := first | assumption | omega | exact tb_sm0 | exact tb_sm1 _ | exact tb_sm2 _ _ | exact tb_sm3 _ _ _ | exact tb_sm4 _ _ _ _ | exact Or.inl rfl | exact Or.inr rfl | fail) only [r156_331, r156_332, r156_333, r156_334, r156_335, r156_336, r156_337, r156_338, r156_339, r156_340, r156_341, r156_342, ld2, nI_add, tb_vl_some, tb_vl_none, tb_wF_some]
  refine m_set hM2 hW.1 (by omega) (fun h3 hM3 hF3 => ?_)
  try simp (disch := first | assumption | omega | exact tb_sm0 | exact tb_sm1 _ | exact tb_sm2 _ _ | exact tb_sm3 _ _ _ | exact tb_sm4 _ _ _ _ | exact Or.inl rfl | exact Or.inr rfl | fail) only [r156_345, tb_vl_some, tb_vl_none, tb_wF_some, eq_self, if_true, ↓reduceIte]
  have hC3 := hC2.fr (h' := h3) (fun q q1 q2 => hF3 q (by omega))
  exact hQ h3 _ _ _ _ ⟨hC3, hM3, W_set hW _ _, rc_W hH hW, hS, hT6, hTx⟩ (fun q hq => by rw [hF3 q (by omega), hF2 q (by omega)])
theorem op_6 (hI : lo_I h x s hs kn g) (hB : lo_B E h x b L xs) (hi : i + 5 ≤ L) (hd : 10 ≤ d) (hQ : ∀ h' s' hs' kn' g', lo_I h' x s' hs' kn' g' → (∀ q, q < x → h' q = h q) → tb_wp E d 156 908 [.ref b, .ref x, .ref (x + 198), .int (nI i)] [] h' nx bc bs Q) :
    tb_wp E d 156 350 [.ref b, .ref x, .ref (x + 198), .int (nI i)] [] h nx bc bs Q := by
  obtain ⟨hC, hM, hW, hH, hS, hT6, hTx⟩ := hI
  have oC := hC.1.O
  have oM := hM.O
  have hL31 : L ≤ 2560 := hB.2.2.2.2
  have ld1 := fun {j : Nat} (hj : j < L) {K : Int32 → Prop} => hB.ld hj (K := K)
  simp (disch := first | assumption | omega | exact tb_sm0 | exact tb_sm1 _ | exact tb_sm2 _ _ | exact tb_sm3 _ _ _ | exact tb_sm4 _ _ _ _ | exact Or.inl rfl | exact Or.inr rfl | fail) only [r156_350, r156_351, r156_352, r156_353, r156_354, r156_355, r156_356, ld1, nI_add, tb_vl_some, tb_vl_none, tb_wF_some]
  refine k_pass hC hW (by omega) (fun h2 hC2 hF2 => ?_)
  have hB2 := hB.fr (fun q hq => hF2 q (by omega))
  have hM2 := hM.fr (h' := h2) (fun q q1 q2 => hF2 q (by omega))
  have oM2 := hM2.O
  have ld2 := fun {j : Nat} (hj : j < L) {K : Int32 → Prop} => hB2.ld hj (K := K)
  try simp (disch := first | assumption | omega | exact tb_sm0 | exact tb_sm1 _ | exact tb_sm2 _ _ | exact tb_sm3 _ _ _ | exact tb_sm4 _ _ _ _ | exact Or.inl rfl | exact Or.inr rfl | fail) only [r156_359, r156_360, r156_361, r156_362, r156_363, r156_364, r156_365, ld2, nI_add, tb_vl_some, tb_vl_none, tb_wF_some]
  refine m_pass hM2 hW.1 hW.2 (by omega) (fun h3 hM3 hF3 => ?_)
  try simp (disch := first | assumption | omega | exact tb_sm0 | exact tb_sm1 _ | exact tb_sm2 _ _ | exact tb_sm3 _ _ _ | exact tb_sm4 _ _ _ _ | exact Or.inl rfl | exact Or.inr rfl | fail) only [r156_368, tb_vl_some, tb_vl_none, tb_wF_some, eq_self, if_true, ↓reduceIte]
  have hC3 := hC2.fr (h' := h3) (fun q q1 q2 => hF3 q (by omega))
  exact hQ h3 _ _ _ _ ⟨hC3, hM3, W_pass hW _, rc_W hH hW, hS, hT6, hTx⟩ (fun q hq => by rw [hF3 q (by omega), hF2 q (by omega)])
theorem op_7 (hI : lo_I h x s hs kn g) (hB : lo_B E h x b L xs) (hi : i + 5 ≤ L) (hd : 10 ≤ d) (hQ : ∀ h' s' hs' kn' g', lo_I h' x s' hs' kn' g' → (∀ q, q < x → h' q = h q) → tb_wp E d 156 908 [.ref b, .ref x, .ref (x + 198), .int (nI i)] [] h' nx bc bs Q) :
    tb_wp E d 156 373 [.ref b, .ref x, .ref (x + 198), .int (nI i)] [] h nx bc bs Q := by
  obtain ⟨hC, hM, hW, hH, hS, hT6, hTx⟩ := hI
  have oC := hC.1.O
  have oM := hM.O
  have hL31 : L ≤ 2560 := hB.2.2.2.2
  have ld1 := fun {j : Nat} (hj : j < L) {K : Int32 → Prop} => hB.ld hj (K := K)
  obtain ⟨c, hc, ec⟩ := e_i2c (xs (i + 1))
  by_cases c60 : g.2.2.2.1 = 60
  · obtain ⟨po, wr, sp, as, ah, cm, od, bf, hG, hHi⟩ := hM
    have hM : tb_MF h (x + 198) s hs kn g := ⟨po, wr, sp, as, ah, cm, od, bf, hG, hHi⟩
    simp (disch := first | assumption | omega | exact tb_sm0 | exact tb_sm1 _ | exact tb_sm2 _ _ | exact tb_sm3 _ _ _ | exact tb_sm4 _ _ _ _ | exact Or.inl rfl | exact Or.inr rfl | fail) only [r156_373, r156_374, r156_375, r156_376, r156_377, r156_378, r156_379, r156_380, r156_383, r156_384, r156_385, r156_386, r156_387, r156_388, r156_389, r156_390, r156_393, r156_396, r156_397, ld1, nI_add, tb_vl_some, tb_vl_none, tb_wF_some, k_type_f hC c60 (show 1 ≤ d - 1 by omega), m_type_f hM c60, eq_self, if_true, ↓reduceIte]
    exact hQ h _ _ _ _ ⟨hC, hM, hW, hH, hS, hT6, hTx⟩ (fun _ _ => rfl)
  · simp (disch := first | assumption | omega | exact tb_sm0 | exact tb_sm1 _ | exact tb_sm2 _ _ | exact tb_sm3 _ _ _ | exact tb_sm4 _ _ _ _ | exact Or.inl rfl | exact Or.inr rfl | fail) only [r156_373, r156_374, r156_375, r156_376, r156_377, r156_378, r156_379, r156_380, ld1, nI_add, tb_vl_some, tb_vl_none, tb_wF_some, ec]
    refine k_type hC (by omega) hc (by omega) (fun h2 hC2 hF2 => ?_)
    have hB2 := hB.fr (fun q hq => hF2 q (by omega))
    have hM2 := hM.fr (h' := h2) (fun q q1 q2 => hF2 q (by omega))
    have oM2 := hM2.O
    have ld2 := fun {j : Nat} (hj : j < L) {K : Int32 → Prop} => hB2.ld hj (K := K)
    try simp (disch := first | assumption | omega | exact tb_sm0 | exact tb_sm1 _ | exact tb_sm2 _ _ | exact tb_sm3 _ _ _ | exact tb_sm4 _ _ _ _ | exact Or.inl rfl | exact Or.inr rfl | fail) only [r156_383, r156_384, r156_385, r156_386, r156_387, r156_388, r156_389, r156_390, ld2, nI_add, tb_vl_some, tb_vl_none, tb_wF_some, ec]
    refine m_type hM2 (by omega) (fun h3 hM3 hF3 => ?_)
    try simp (disch := first | assumption | omega | exact tb_sm0 | exact tb_sm1 _ | exact tb_sm2 _ _ | exact tb_sm3 _ _ _ | exact tb_sm4 _ _ _ _ | exact Or.inl rfl | exact Or.inr rfl | fail) only [r156_393, tb_vl_some, tb_vl_none, tb_wF_some, eq_self, if_true, ↓reduceIte]
    have hC3 := hC2.fr (h' := h3) (fun q q1 q2 => hF3 q (by omega))
    refine hQ h3 _ _ _ _ ⟨hC3, hM3, hW, hH, hS, by show g.2.2.2.1 + 1 ≤ 60; omega, fun j => ?_⟩ (fun q hq => by rw [hF3 q (by omega), hF2 q (by omega)])
    show va_up g.2.2.1 g.2.2.2.1 c j < 65536
    unfold va_up
    split
    · exact hc
    · exact hTx j
theorem op_8 (hI : lo_I h x s hs kn g) (hB : lo_B E h x b L xs) (hi : i + 5 ≤ L) (hd : 10 ≤ d) (hQ : ∀ h' s' hs' kn' g', lo_I h' x s' hs' kn' g' → (∀ q, q < x → h' q = h q) → tb_wp E d 156 908 [.ref b, .ref x, .ref (x + 198), .int (nI i)] [] h' nx bc bs Q) :
    tb_wp E d 156 398 [.ref b, .ref x, .ref (x + 198), .int (nI i)] [] h nx bc bs Q := by
  obtain ⟨hC, hM, hW, hH, hS, hT6, hTx⟩ := hI
  have oC := hC.1.O
  have oM := hM.O
  have hL31 : L ≤ 2560 := hB.2.2.2.2
  have ld1 := fun {j : Nat} (hj : j < L) {K : Int32 → Prop} => hB.ld hj (K := K)
  simp (disch := first | assumption | omega | exact tb_sm0 | exact tb_sm1 _ | exact tb_sm2 _ _ | exact tb_sm3 _ _ _ | exact tb_sm4 _ _ _ _ | exact Or.inl rfl | exact Or.inr rfl | fail) only [r156_398, r156_399, ld1, nI_add, tb_vl_some, tb_vl_none, tb_wF_some]
  refine k_clearText hC (by omega) (fun h2 hC2 hF2 => ?_)
  have hB2 := hB.fr (fun q hq => hF2 q (by omega))
  have hM2 := hM.fr (h' := h2) (fun q q1 q2 => hF2 q (by omega))
  have oM2 := hM2.O
  have ld2 := fun {j : Nat} (hj : j < L) {K : Int32 → Prop} => hB2.ld hj (K := K)
  try simp (disch := first | assumption | omega | exact tb_sm0 | exact tb_sm1 _ | exact tb_sm2 _ _ | exact tb_sm3 _ _ _ | exact tb_sm4 _ _ _ _ | exact Or.inl rfl | exact Or.inr rfl | fail) only [r156_402, r156_403, ld2, nI_add, tb_vl_some, tb_vl_none, tb_wF_some]
  refine m_clearText hM2 (fun h3 hM3 hF3 => ?_)
  try simp (disch := first | assumption | omega | exact tb_sm0 | exact tb_sm1 _ | exact tb_sm2 _ _ | exact tb_sm3 _ _ _ | exact tb_sm4 _ _ _ _ | exact Or.inl rfl | exact Or.inr rfl | fail) only [r156_406, tb_vl_some, tb_vl_none, tb_wF_some, eq_self, if_true, ↓reduceIte]
  have hC3 := hC2.fr (h' := h3) (fun q q1 q2 => hF3 q (by omega))
  exact hQ h3 _ _ _ _ ⟨hC3, hM3, hW, hH, hS, Nat.zero_le _, hTx⟩ (fun q hq => by rw [hF3 q (by omega), hF2 q (by omega)])
theorem op_9 (hI : lo_I h x s hs kn g) (hB : lo_B E h x b L xs) (hi : i + 5 ≤ L) (hd : 10 ≤ d) (hQ : ∀ h' s' hs' kn' g', lo_I h' x s' hs' kn' g' → (∀ q, q < x → h' q = h q) → tb_wp E d 156 908 [.ref b, .ref x, .ref (x + 198), .int (nI i)] [] h' nx bc bs Q) :
    tb_wp E d 156 411 [.ref b, .ref x, .ref (x + 198), .int (nI i)] [] h nx bc bs Q := by
  obtain ⟨hC, hM, hW, hH, hS, hT6, hTx⟩ := hI
  have oC := hC.1.O
  have oM := hM.O
  have hL31 : L ≤ 2560 := hB.2.2.2.2
  have ld1 := fun {j : Nat} (hj : j < L) {K : Int32 → Prop} => hB.ld hj (K := K)
  simp (disch := first | assumption | omega | exact tb_sm0 | exact tb_sm1 _ | exact tb_sm2 _ _ | exact tb_sm3 _ _ _ | exact tb_sm4 _ _ _ _ | exact Or.inl rfl | exact Or.inr rfl | fail) only [r156_411, r156_412, ld1, nI_add, tb_vl_some, tb_vl_none, tb_wF_some]
  refine k_perform hC hW hTx hT6 (by omega) (fun h2 hC2 hF2 => ?_)
  have hB2 := hB.fr (fun q hq => hF2 q (by omega))
  have hM2 := hM.fr (h' := h2) (fun q q1 q2 => hF2 q (by omega))
  have oM2 := hM2.O
  have ld2 := fun {j : Nat} (hj : j < L) {K : Int32 → Prop} => hB2.ld hj (K := K)
  try simp (disch := first | assumption | omega | exact tb_sm0 | exact tb_sm1 _ | exact tb_sm2 _ _ | exact tb_sm3 _ _ _ | exact tb_sm4 _ _ _ _ | exact Or.inl rfl | exact Or.inr rfl | fail) only [r156_415, r156_416, ld2, nI_add, tb_vl_some, tb_vl_none, tb_wF_some]
  refine m_perform hM2 hW hTx hT6 (by omega) (fun h3 hM3 hF3 => ?_)
  try simp (disch := first | assumption | omega | exact tb_sm0 | exact tb_sm1 _ | exact tb_sm2 _ _ | exact tb_sm3 _ _ _ | exact tb_sm4 _ _ _ _ | exact Or.inl rfl | exact Or.inr rfl | fail) only [r156_419, tb_vl_some, tb_vl_none, tb_wF_some, eq_self, if_true, ↓reduceIte]
  have hC3 := hC2.fr (h' := h3) (fun q q1 q2 => hF3 q (by omega))
  have hgg : (∀ i, i < (ac_perf s hs kn g).2.2.2.1 → sp_W ((ac_perf s hs kn g).2.2.1 i)) ∧ ((ac_perf s hs kn g).2.2.2.2.2.1 = 0 ∨ ((ac_perf s hs kn g).2.2.2.2.2.1 = 1 ∧ sp_W (ac_perf s hs kn g).2.2.2.2.1)) ∧ (ac_perf s hs kn g).2.2.2.2.2.2.2.1 ≤ 60 ∧ ∀ j, (ac_perf s hs kn g).2.2.2.2.2.2.1 j < 65536 := by
    unfold ac_perf
    split
    · split
      · exact ⟨hH, hS, hT6, hTx⟩
      · exact ⟨rec_W hH hW, hS, hT6, hTx⟩
    · exact ⟨hH, hS, hT6, hTx⟩
  exact hQ h3 _ _ _ _ ⟨hC3, hM3, W_perf hW, hgg.1, hgg.2.1, hgg.2.2.1, hgg.2.2.2⟩ (fun q hq => by rw [hF3 q (by omega), hF2 q (by omega)])
theorem op_10 (hI : lo_I h x s hs kn g) (hB : lo_B E h x b L xs) (hi : i + 5 ≤ L) (hd : 10 ≤ d) (hQ : ∀ h' s' hs' kn' g', lo_I h' x s' hs' kn' g' → (∀ q, q < x → h' q = h q) → tb_wp E d 156 908 [.ref b, .ref x, .ref (x + 198), .int (nI i)] [] h' nx bc bs Q) :
    tb_wp E d 156 424 [.ref b, .ref x, .ref (x + 198), .int (nI i)] [] h nx bc bs Q := by
  obtain ⟨hC, hM, hW, hH, hS, hT6, hTx⟩ := hI
  have oC := hC.1.O
  have oM := hM.O
  have hL31 : L ≤ 2560 := hB.2.2.2.2
  have ld1 := fun {j : Nat} (hj : j < L) {K : Int32 → Prop} => hB.ld hj (K := K)
  simp (disch := first | assumption | omega | exact tb_sm0 | exact tb_sm1 _ | exact tb_sm2 _ _ | exact tb_sm3 _ _ _ | exact tb_sm4 _ _ _ _ | exact Or.inl rfl | exact Or.inr rfl | fail) only [r156_424, r156_425, r156_426, r156_427, r156_428, r156_429, r156_430, r156_433, r156_434, r156_435, r156_436, r156_437, r156_438, r156_439, r156_442, r156_445, r156_446, ld1, nI_add, tb_vl_some, tb_vl_none, tb_wF_some, k_stopped hC (show 1 ≤ d - 1 by omega), m_stopped hM, eq_self, if_true, ↓reduceIte]
  exact hQ h _ _ _ _ ⟨hC, hM, hW, hH, hS, hT6, hTx⟩ (fun _ _ => rfl)
theorem op_11 (hI : lo_I h x s hs kn g) (hB : lo_B E h x b L xs) (hi : i + 5 ≤ L) (hd : 10 ≤ d) (hQ : ∀ h' s' hs' kn' g', lo_I h' x s' hs' kn' g' → (∀ q, q < x → h' q = h q) → tb_wp E d 156 908 [.ref b, .ref x, .ref (x + 198), .int (nI i)] [] h' nx bc bs Q) :
    tb_wp E d 156 447 [.ref b, .ref x, .ref (x + 198), .int (nI i)] [] h nx bc bs Q := by
  obtain ⟨hC, hM, hW, hH, hS, hT6, hTx⟩ := hI
  have oC := hC.1.O
  have oM := hM.O
  have hL31 : L ≤ 2560 := hB.2.2.2.2
  have ld1 := fun {j : Nat} (hj : j < L) {K : Int32 → Prop} => hB.ld hj (K := K)
  cases kn with
  | zero =>
    simp (disch := first | assumption | omega | exact tb_sm0 | exact tb_sm1 _ | exact tb_sm2 _ _ | exact tb_sm3 _ _ _ | exact tb_sm4 _ _ _ _ | exact Or.inl rfl | exact Or.inr rfl | fail) only [r156_447, r156_448, r156_451, r156_452, r156_455, r156_458, r156_459, tb_vl_some, tb_vl_none, tb_wF_some, k_undo_0 hC, m_undo_0 hM, eq_self, if_true, ↓reduceIte]
    exact hQ h _ _ _ _ ⟨hC, hM, hW, hH, hS, hT6, hTx⟩ (fun _ _ => rfl)
  | succ kn =>
    simp (disch := first | assumption | omega | exact tb_sm0 | exact tb_sm1 _ | exact tb_sm2 _ _ | exact tb_sm3 _ _ _ | exact tb_sm4 _ _ _ _ | exact Or.inl rfl | exact Or.inr rfl | fail) only [r156_447, r156_448, ld1, nI_add, tb_vl_some, tb_vl_none, tb_wF_some]
    refine k_undo hC (hH kn (by omega)).1.2.2.2.2 (by omega) (fun h2 hC2 hF2 => ?_)
    have hB2 := hB.fr (fun q hq => hF2 q (by omega))
    have hM2 := hM.fr (h' := h2) (fun q q1 q2 => hF2 q (by omega))
    have oM2 := hM2.O
    have ld2 := fun {j : Nat} (hj : j < L) {K : Int32 → Prop} => hB2.ld hj (K := K)
    try simp (disch := first | assumption | omega | exact tb_sm0 | exact tb_sm1 _ | exact tb_sm2 _ _ | exact tb_sm3 _ _ _ | exact tb_sm4 _ _ _ _ | exact Or.inl rfl | exact Or.inr rfl | fail) only [r156_451, r156_452, ld2, nI_add, tb_vl_some, tb_vl_none, tb_wF_some]
    refine m_undo hM2 (fun h3 hM3 hF3 => ?_)
    try simp (disch := first | assumption | omega | exact tb_sm0 | exact tb_sm1 _ | exact tb_sm2 _ _ | exact tb_sm3 _ _ _ | exact tb_sm4 _ _ _ _ | exact Or.inl rfl | exact Or.inr rfl | fail) only [r156_455, tb_vl_some, tb_vl_none, tb_wF_some, eq_self, if_true, ↓reduceIte]
    have hC3 := hC2.fr (h' := h3) (fun q q1 q2 => hF3 q (by omega))
    exact hQ h3 _ _ _ _ ⟨hC3, hM3, hH kn (by omega), fun i hi => hH i (by omega), hS, hT6, hTx⟩ (fun q hq => by rw [hF3 q (by omega), hF2 q (by omega)])
theorem op_12 (hI : lo_I h x s hs kn g) (hB : lo_B E h x b L xs) (hi : i + 5 ≤ L) (hd : 10 ≤ d) (hQ : ∀ h' s' hs' kn' g', lo_I h' x s' hs' kn' g' → (∀ q, q < x → h' q = h q) → tb_wp E d 156 908 [.ref b, .ref x, .ref (x + 198), .int (nI i)] [] h' nx bc bs Q) :
    tb_wp E d 156 460 [.ref b, .ref x, .ref (x + 198), .int (nI i)] [] h nx bc bs Q := by
  obtain ⟨hC, hM, hW, hH, hS, hT6, hTx⟩ := hI
  have oC := hC.1.O
  have oM := hM.O
  have hL31 : L ≤ 2560 := hB.2.2.2.2
  have ld1 := fun {j : Nat} (hj : j < L) {K : Int32 → Prop} => hB.ld hj (K := K)
  simp (disch := first | assumption | omega | exact tb_sm0 | exact tb_sm1 _ | exact tb_sm2 _ _ | exact tb_sm3 _ _ _ | exact tb_sm4 _ _ _ _ | exact Or.inl rfl | exact Or.inr rfl | fail) only [r156_460, r156_461, ld1, nI_add, tb_vl_some, tb_vl_none, tb_wF_some]
  refine k_keep hC hW.1.2.2.2.2 (by omega) (fun h2 hC2 hF2 => ?_)
  have hB2 := hB.fr (fun q hq => hF2 q (by omega))
  have hM2 := hM.fr (h' := h2) (fun q q1 q2 => hF2 q (by omega))
  have oM2 := hM2.O
  have ld2 := fun {j : Nat} (hj : j < L) {K : Int32 → Prop} => hB2.ld hj (K := K)
  try simp (disch := first | assumption | omega | exact tb_sm0 | exact tb_sm1 _ | exact tb_sm2 _ _ | exact tb_sm3 _ _ _ | exact tb_sm4 _ _ _ _ | exact Or.inl rfl | exact Or.inr rfl | fail) only [r156_464, r156_465, ld2, nI_add, tb_vl_some, tb_vl_none, tb_wF_some]
  refine m_keep hM2 (fun h3 hM3 hF3 => ?_)
  try simp (disch := first | assumption | omega | exact tb_sm0 | exact tb_sm1 _ | exact tb_sm2 _ _ | exact tb_sm3 _ _ _ | exact tb_sm4 _ _ _ _ | exact Or.inl rfl | exact Or.inr rfl | fail) only [r156_468, tb_vl_some, tb_vl_none, tb_wF_some, eq_self, if_true, ↓reduceIte]
  have hC3 := hC2.fr (h' := h3) (fun q q1 q2 => hF3 q (by omega))
  exact hQ h3 _ _ _ _ ⟨hC3, hM3, hW, hH, Or.inr ⟨rfl, hW⟩, hT6, hTx⟩ (fun q hq => by rw [hF3 q (by omega), hF2 q (by omega)])
theorem op_13 (hI : lo_I h x s hs kn g) (hB : lo_B E h x b L xs) (hi : i + 5 ≤ L) (hd : 10 ≤ d) (hQ : ∀ h' s' hs' kn' g', lo_I h' x s' hs' kn' g' → (∀ q, q < x → h' q = h q) → tb_wp E d 156 908 [.ref b, .ref x, .ref (x + 198), .int (nI i)] [] h' nx bc bs Q) :
    tb_wp E d 156 473 [.ref b, .ref x, .ref (x + 198), .int (nI i)] [] h nx bc bs Q := by
  obtain ⟨hC, hM, hW, hH, hS, hT6, hTx⟩ := hI
  have oC := hC.1.O
  have oM := hM.O
  have hL31 : L ≤ 2560 := hB.2.2.2.2
  have ld1 := fun {j : Nat} (hj : j < L) {K : Int32 → Prop} => hB.ld hj (K := K)
  rcases hS with h0 | ⟨h1, hWg⟩
  · simp (disch := first | assumption | omega | exact tb_sm0 | exact tb_sm1 _ | exact tb_sm2 _ _ | exact tb_sm3 _ _ _ | exact tb_sm4 _ _ _ _ | exact Or.inl rfl | exact Or.inr rfl | fail) only [r156_473, r156_474, r156_477, r156_478, r156_481, r156_484, r156_485, tb_vl_some, tb_vl_none, tb_wF_some, k_restore_0 hC h0, m_restore_0 hM h0, eq_self, if_true, ↓reduceIte]
    exact hQ h _ _ _ _ ⟨hC, hM, hW, hH, Or.inl h0, hT6, hTx⟩ (fun _ _ => rfl)
  · simp (disch := first | assumption | omega | exact tb_sm0 | exact tb_sm1 _ | exact tb_sm2 _ _ | exact tb_sm3 _ _ _ | exact tb_sm4 _ _ _ _ | exact Or.inl rfl | exact Or.inr rfl | fail) only [r156_473, r156_474, ld1, nI_add, tb_vl_some, tb_vl_none, tb_wF_some]
    refine k_restore hC hW.1.2.2.2.2 hWg.1.2.2.2.2 h1 (by have := hWg.2.1; omega) (by omega) (fun h2 hC2 hF2 => ?_)
    have hB2 := hB.fr (fun q hq => hF2 q (by omega))
    have hM2 := hM.fr (h' := h2) (fun q q1 q2 => hF2 q (by omega))
    have oM2 := hM2.O
    have ld2 := fun {j : Nat} (hj : j < L) {K : Int32 → Prop} => hB2.ld hj (K := K)
    try simp (disch := first | assumption | omega | exact tb_sm0 | exact tb_sm1 _ | exact tb_sm2 _ _ | exact tb_sm3 _ _ _ | exact tb_sm4 _ _ _ _ | exact Or.inl rfl | exact Or.inr rfl | fail) only [r156_477, r156_478, ld2, nI_add, tb_vl_some, tb_vl_none, tb_wF_some]
    refine m_restore hM2 h1 (by omega) (fun h3 hM3 hF3 => ?_)
    try simp (disch := first | assumption | omega | exact tb_sm0 | exact tb_sm1 _ | exact tb_sm2 _ _ | exact tb_sm3 _ _ _ | exact tb_sm4 _ _ _ _ | exact Or.inl rfl | exact Or.inr rfl | fail) only [r156_481, tb_vl_some, tb_vl_none, tb_wF_some, eq_self, if_true, ↓reduceIte]
    have hC3 := hC2.fr (h' := h3) (fun q q1 q2 => hF3 q (by omega))
    exact hQ h3 _ _ _ _ ⟨hC3, hM3, hWg, rec_W hH hW, Or.inr ⟨h1, hWg⟩, hT6, hTx⟩ (fun q hq => by rw [hF3 q (by omega), hF2 q (by omega)])
theorem op_14 (hI : lo_I h x s hs kn g) (hB : lo_B E h x b L xs) (hi : i + 5 ≤ L) (hd : 10 ≤ d) (hQ : ∀ h' s' hs' kn' g', lo_I h' x s' hs' kn' g' → (∀ q, q < x → h' q = h q) → tb_wp E d 156 908 [.ref b, .ref x, .ref (x + 198), .int (nI i)] [] h' nx bc bs Q) :
    tb_wp E d 156 486 [.ref b, .ref x, .ref (x + 198), .int (nI i)] [] h nx bc bs Q := by
  obtain ⟨hC, hM, hW, hH, hS, hT6, hTx⟩ := hI
  have oC := hC.1.O
  have oM := hM.O
  have hL31 : L ≤ 2560 := hB.2.2.2.2
  have ld1 := fun {j : Nat} (hj : j < L) {K : Int32 → Prop} => hB.ld hj (K := K)
  obtain ⟨po, wr, sp, as, ah, cm, od, bf, hG, hHi⟩ := hM
  have hM : tb_MF h (x + 198) s hs kn g := ⟨po, wr, sp, as, ah, cm, od, bf, hG, hHi⟩
  simp (disch := first | assumption | omega | exact tb_sm0 | exact tb_sm1 _ | exact tb_sm2 _ _ | exact tb_sm3 _ _ _ | exact tb_sm4 _ _ _ _ | exact Or.inl rfl | exact Or.inr rfl | fail) only [r156_486, r156_487, r156_488, r156_489, r156_490, r156_491, r156_492, r156_493, r156_494, r156_495, r156_496, r156_497, r156_498, r156_499, r156_500, r156_501, r156_502, ld1, nI_add, tb_vl_some, tb_vl_none, tb_wF_some]
  refine k_grains hC (by omega) ?_
  simp (disch := first | assumption | omega | exact tb_sm0 | exact tb_sm1 _ | exact tb_sm2 _ _ | exact tb_sm3 _ _ _ | exact tb_sm4 _ _ _ _ | exact Or.inl rfl | exact Or.inr rfl | fail) only [r156_505, r156_506, r156_507, r156_508, r156_509, r156_510, r156_511, r156_512, r156_513, r156_514, r156_515, r156_516, r156_517, r156_518, r156_519, r156_520, r156_521, r156_524, r156_527, r156_528, ld1, nI_add, tb_vl_some, tb_vl_none, tb_wF_some, m_grains (tb_MG.S hG) (show 3 ≤ d - 1 by omega), eq_self, if_true, ↓reduceIte]
  exact hQ h _ _ _ _ ⟨hC, hM, hW, hH, hS, hT6, hTx⟩ (fun _ _ => rfl)
theorem op_15 (hI : lo_I h x s hs kn g) (hB : lo_B E h x b L xs) (hi : i + 5 ≤ L) (hd : 10 ≤ d) (hQ : ∀ h' s' hs' kn' g', lo_I h' x s' hs' kn' g' → (∀ q, q < x → h' q = h q) → tb_wp E d 156 908 [.ref b, .ref x, .ref (x + 198), .int (nI i)] [] h' nx bc bs Q) :
    tb_wp E d 156 529 [.ref b, .ref x, .ref (x + 198), .int (nI i)] [] h nx bc bs Q := by
  obtain ⟨hC, hM, hW, hH, hS, hT6, hTx⟩ := hI
  have oC := hC.1.O
  have oM := hM.O
  have hL31 : L ≤ 2560 := hB.2.2.2.2
  have ld1 := fun {j : Nat} (hj : j < L) {K : Int32 → Prop} => hB.ld hj (K := K)
  obtain ⟨po, wr, sp, as, ah, cm, od, bf, hG, hHi⟩ := hM
  have hM : tb_MF h (x + 198) s hs kn g := ⟨po, wr, sp, as, ah, cm, od, bf, hG, hHi⟩
  simp (disch := first | assumption | omega | exact tb_sm0 | exact tb_sm1 _ | exact tb_sm2 _ _ | exact tb_sm3 _ _ _ | exact tb_sm4 _ _ _ _ | exact Or.inl rfl | exact Or.inr rfl | fail) only [r156_529, r156_530, r156_531, r156_532, r156_533, r156_534, r156_535, r156_536, r156_537, r156_538, r156_539, r156_540, ld1, nI_add, tb_vl_some, tb_vl_none, tb_wF_some]
  refine k_board hC hW.1 (by omega) ?_
  simp (disch := first | assumption | omega | exact tb_sm0 | exact tb_sm1 _ | exact tb_sm2 _ _ | exact tb_sm3 _ _ _ | exact tb_sm4 _ _ _ _ | exact Or.inl rfl | exact Or.inr rfl | fail) only [r156_543, r156_544, r156_545, r156_546, r156_547, r156_548, r156_549, r156_550, r156_551, r156_552, r156_553, r156_554, r156_557, r156_560, r156_561, ld1, nI_add, tb_vl_some, tb_vl_none, tb_wF_some, m_board (tb_MG.S hG) hW.1 (show 5 ≤ d - 1 by omega), eq_self, if_true, ↓reduceIte]
  exact hQ h _ _ _ _ ⟨hC, hM, hW, hH, hS, hT6, hTx⟩ (fun _ _ => rfl)
theorem op_16 (hI : lo_I h x s hs kn g) (hB : lo_B E h x b L xs) (hi : i + 5 ≤ L) (hd : 10 ≤ d) (hQ : ∀ h' s' hs' kn' g', lo_I h' x s' hs' kn' g' → (∀ q, q < x → h' q = h q) → tb_wp E d 156 908 [.ref b, .ref x, .ref (x + 198), .int (nI i)] [] h' nx bc bs Q) :
    tb_wp E d 156 562 [.ref b, .ref x, .ref (x + 198), .int (nI i)] [] h nx bc bs Q := by
  obtain ⟨hC, hM, hW, hH, hS, hT6, hTx⟩ := hI
  have oC := hC.1.O
  have oM := hM.O
  have hL31 : L ≤ 2560 := hB.2.2.2.2
  have ld1 := fun {j : Nat} (hj : j < L) {K : Int32 → Prop} => hB.ld hj (K := K)
  obtain ⟨po, wr, sp, as, ah, cm, od, bf, hG, hHi⟩ := hM
  have hM : tb_MF h (x + 198) s hs kn g := ⟨po, wr, sp, as, ah, cm, od, bf, hG, hHi⟩
  simp (disch := first | assumption | omega | exact tb_sm0 | exact tb_sm1 _ | exact tb_sm2 _ _ | exact tb_sm3 _ _ _ | exact tb_sm4 _ _ _ _ | exact Or.inl rfl | exact Or.inr rfl | fail) only [r156_562, r156_563, r156_564, r156_565, r156_566, r156_567, r156_568, r156_569, r156_570, r156_571, r156_572, r156_573, ld1, nI_add, tb_vl_some, tb_vl_none, tb_wF_some]
  refine k_pan hC (by omega) ?_
  simp (disch := first | assumption | omega | exact tb_sm0 | exact tb_sm1 _ | exact tb_sm2 _ _ | exact tb_sm3 _ _ _ | exact tb_sm4 _ _ _ _ | exact Or.inl rfl | exact Or.inr rfl | fail) only [r156_576, r156_577, r156_578, r156_579, r156_580, r156_581, r156_582, r156_583, r156_584, r156_585, r156_586, r156_587, r156_590, r156_593, r156_594, ld1, nI_add, tb_vl_some, tb_vl_none, tb_wF_some, m_pan (tb_MG.S hG) (show 2 ≤ d - 1 by omega), eq_self, if_true, ↓reduceIte]
  exact hQ h _ _ _ _ ⟨hC, hM, hW, hH, hS, hT6, hTx⟩ (fun _ _ => rfl)
theorem op_17 (hI : lo_I h x s hs kn g) (hB : lo_B E h x b L xs) (hi : i + 5 ≤ L) (hd : 10 ≤ d) (hQ : ∀ h' s' hs' kn' g', lo_I h' x s' hs' kn' g' → (∀ q, q < x → h' q = h q) → tb_wp E d 156 908 [.ref b, .ref x, .ref (x + 198), .int (nI i)] [] h' nx bc bs Q) :
    tb_wp E d 156 595 [.ref b, .ref x, .ref (x + 198), .int (nI i)] [] h nx bc bs Q := by
  obtain ⟨hC, hM, hW, hH, hS, hT6, hTx⟩ := hI
  have oC := hC.1.O
  have oM := hM.O
  have hL31 : L ≤ 2560 := hB.2.2.2.2
  have ld1 := fun {j : Nat} (hj : j < L) {K : Int32 → Prop} => hB.ld hj (K := K)
  obtain ⟨po, wr, sp, as, ah, cm, od, bf, hG, hHi⟩ := hM
  have hM : tb_MF h (x + 198) s hs kn g := ⟨po, wr, sp, as, ah, cm, od, bf, hG, hHi⟩
  simp (disch := first | assumption | omega | exact tb_sm0 | exact tb_sm1 _ | exact tb_sm2 _ _ | exact tb_sm3 _ _ _ | exact tb_sm4 _ _ _ _ | exact Or.inl rfl | exact Or.inr rfl | fail) only [r156_595, r156_596, r156_597, r156_598, r156_599, r156_600, r156_601, r156_602, r156_603, r156_604, r156_605, r156_606, ld1, nI_add, tb_vl_some, tb_vl_none, tb_wF_some]
  refine k_kind hC (by omega) ?_
  simp (disch := first | assumption | omega | exact tb_sm0 | exact tb_sm1 _ | exact tb_sm2 _ _ | exact tb_sm3 _ _ _ | exact tb_sm4 _ _ _ _ | exact Or.inl rfl | exact Or.inr rfl | fail) only [r156_609, r156_610, r156_611, r156_612, r156_613, r156_614, r156_615, r156_616, r156_617, r156_618, r156_619, r156_620, r156_623, r156_626, r156_627, ld1, nI_add, tb_vl_some, tb_vl_none, tb_wF_some, m_kind (tb_MG.S hG) (show 2 ≤ d - 1 by omega), eq_self, if_true, ↓reduceIte]
  exact hQ h _ _ _ _ ⟨hC, hM, hW, hH, hS, hT6, hTx⟩ (fun _ _ => rfl)
theorem op_18 (hI : lo_I h x s hs kn g) (hB : lo_B E h x b L xs) (hi : i + 5 ≤ L) (hd : 10 ≤ d) (hQ : ∀ h' s' hs' kn' g', lo_I h' x s' hs' kn' g' → (∀ q, q < x → h' q = h q) → tb_wp E d 156 908 [.ref b, .ref x, .ref (x + 198), .int (nI i)] [] h' nx bc bs Q) :
    tb_wp E d 156 628 [.ref b, .ref x, .ref (x + 198), .int (nI i)] [] h nx bc bs Q := by
  obtain ⟨hC, hM, hW, hH, hS, hT6, hTx⟩ := hI
  have oC := hC.1.O
  have oM := hM.O
  have hL31 : L ≤ 2560 := hB.2.2.2.2
  have ld1 := fun {j : Nat} (hj : j < L) {K : Int32 → Prop} => hB.ld hj (K := K)
  obtain ⟨po, wr, sp, as, ah, cm, od, bf, hG, hHi⟩ := hM
  have hM : tb_MF h (x + 198) s hs kn g := ⟨po, wr, sp, as, ah, cm, od, bf, hG, hHi⟩
  simp (disch := first | assumption | omega | exact tb_sm0 | exact tb_sm1 _ | exact tb_sm2 _ _ | exact tb_sm3 _ _ _ | exact tb_sm4 _ _ _ _ | exact Or.inl rfl | exact Or.inr rfl | fail) only [r156_628, r156_629, r156_630, r156_631, r156_632, r156_633, r156_634, r156_635, r156_636, r156_637, r156_638, r156_639, r156_640, r156_641, r156_642, r156_643, r156_644, ld1, nI_add, tb_vl_some, tb_vl_none, tb_wF_some]
  refine k_needs hC hW.1 (by omega) ?_
  simp (disch := first | assumption | omega | exact tb_sm0 | exact tb_sm1 _ | exact tb_sm2 _ _ | exact tb_sm3 _ _ _ | exact tb_sm4 _ _ _ _ | exact Or.inl rfl | exact Or.inr rfl | fail) only [r156_647, r156_648, r156_649, r156_650, r156_651, r156_652, r156_653, r156_654, r156_655, r156_656, r156_657, r156_658, r156_659, r156_660, r156_661, r156_662, r156_663, r156_666, r156_669, r156_670, ld1, nI_add, tb_vl_some, tb_vl_none, tb_wF_some, m_needs (tb_MG.S hG) hW.1 (show 3 ≤ d - 1 by omega), eq_self, if_true, ↓reduceIte]
  exact hQ h _ _ _ _ ⟨hC, hM, hW, hH, hS, hT6, hTx⟩ (fun _ _ => rfl)
theorem op_19 (hI : lo_I h x s hs kn g) (hB : lo_B E h x b L xs) (hi : i + 5 ≤ L) (hd : 10 ≤ d) (hQ : ∀ h' s' hs' kn' g', lo_I h' x s' hs' kn' g' → (∀ q, q < x → h' q = h q) → tb_wp E d 156 908 [.ref b, .ref x, .ref (x + 198), .int (nI i)] [] h' nx bc bs Q) :
    tb_wp E d 156 671 [.ref b, .ref x, .ref (x + 198), .int (nI i)] [] h nx bc bs Q := by
  obtain ⟨hC, hM, hW, hH, hS, hT6, hTx⟩ := hI
  have oC := hC.1.O
  have oM := hM.O
  have hL31 : L ≤ 2560 := hB.2.2.2.2
  have ld1 := fun {j : Nat} (hj : j < L) {K : Int32 → Prop} => hB.ld hj (K := K)
  obtain ⟨po, wr, sp, as, ah, cm, od, bf, hG, hHi⟩ := hM
  have hM : tb_MF h (x + 198) s hs kn g := ⟨po, wr, sp, as, ah, cm, od, bf, hG, hHi⟩
  simp (disch := first | assumption | omega | exact tb_sm0 | exact tb_sm1 _ | exact tb_sm2 _ _ | exact tb_sm3 _ _ _ | exact tb_sm4 _ _ _ _ | exact Or.inl rfl | exact Or.inr rfl | fail) only [r156_671, r156_672, r156_673, r156_674, r156_675, r156_676, r156_677, r156_678, r156_679, r156_680, r156_681, r156_682, r156_683, r156_684, r156_685, r156_686, r156_687, ld1, nI_add, tb_vl_some, tb_vl_none, tb_wF_some]
  refine k_reason hC hW.1 (by omega) ?_
  simp (disch := first | assumption | omega | exact tb_sm0 | exact tb_sm1 _ | exact tb_sm2 _ _ | exact tb_sm3 _ _ _ | exact tb_sm4 _ _ _ _ | exact Or.inl rfl | exact Or.inr rfl | fail) only [r156_690, r156_691, r156_692, r156_693, r156_694, r156_695, r156_696, r156_697, r156_698, r156_699, r156_700, r156_701, r156_702, r156_703, r156_704, r156_705, r156_706, r156_709, r156_712, r156_713, ld1, nI_add, tb_vl_some, tb_vl_none, tb_wF_some, m_reason (tb_MG.S hG) hW.1 (show 4 ≤ d - 1 by omega), eq_self, if_true, ↓reduceIte]
  exact hQ h _ _ _ _ ⟨hC, hM, hW, hH, hS, hT6, hTx⟩ (fun _ _ => rfl)
theorem op_20 (hI : lo_I h x s hs kn g) (hB : lo_B E h x b L xs) (hi : i + 5 ≤ L) (hd : 10 ≤ d) (hQ : ∀ h' s' hs' kn' g', lo_I h' x s' hs' kn' g' → (∀ q, q < x → h' q = h q) → tb_wp E d 156 908 [.ref b, .ref x, .ref (x + 198), .int (nI i)] [] h' nx bc bs Q) :
    tb_wp E d 156 714 [.ref b, .ref x, .ref (x + 198), .int (nI i)] [] h nx bc bs Q := by
  obtain ⟨hC, hM, hW, hH, hS, hT6, hTx⟩ := hI
  have oC := hC.1.O
  have oM := hM.O
  have hL31 : L ≤ 2560 := hB.2.2.2.2
  have ld1 := fun {j : Nat} (hj : j < L) {K : Int32 → Prop} => hB.ld hj (K := K)
  obtain ⟨po, wr, sp, as, ah, cm, od, bf, hG, hHi⟩ := hM
  have hM : tb_MF h (x + 198) s hs kn g := ⟨po, wr, sp, as, ah, cm, od, bf, hG, hHi⟩
  simp (disch := first | assumption | omega | exact tb_sm0 | exact tb_sm1 _ | exact tb_sm2 _ _ | exact tb_sm3 _ _ _ | exact tb_sm4 _ _ _ _ | exact Or.inl rfl | exact Or.inr rfl | fail) only [r156_714, r156_715, r156_716, r156_717, r156_718, r156_719, r156_720, ld1, nI_add, tb_vl_some, tb_vl_none, tb_wF_some]
  refine k_leastAngle hC hW.1 (by omega) ?_
  simp (disch := first | assumption | omega | exact tb_sm0 | exact tb_sm1 _ | exact tb_sm2 _ _ | exact tb_sm3 _ _ _ | exact tb_sm4 _ _ _ _ | exact Or.inl rfl | exact Or.inr rfl | fail) only [r156_723, r156_724, r156_725, r156_726, r156_727, r156_728, r156_729, r156_732, r156_735, r156_736, ld1, nI_add, tb_vl_some, tb_vl_none, tb_wF_some, m_leastAngle (tb_MG.S hG) hW.1 (show 3 ≤ d - 1 by omega), eq_self, if_true, ↓reduceIte]
  exact hQ h _ _ _ _ ⟨hC, hM, hW, hH, hS, hT6, hTx⟩ (fun _ _ => rfl)
theorem op_21 (hI : lo_I h x s hs kn g) (hB : lo_B E h x b L xs) (hi : i + 5 ≤ L) (hd : 10 ≤ d) (hQ : ∀ h' s' hs' kn' g', lo_I h' x s' hs' kn' g' → (∀ q, q < x → h' q = h q) → tb_wp E d 156 908 [.ref b, .ref x, .ref (x + 198), .int (nI i)] [] h' nx bc bs Q) :
    tb_wp E d 156 737 [.ref b, .ref x, .ref (x + 198), .int (nI i)] [] h nx bc bs Q := by
  obtain ⟨hC, hM, hW, hH, hS, hT6, hTx⟩ := hI
  have oC := hC.1.O
  have oM := hM.O
  have hL31 : L ≤ 2560 := hB.2.2.2.2
  have ld1 := fun {j : Nat} (hj : j < L) {K : Int32 → Prop} => hB.ld hj (K := K)
  simp (disch := first | assumption | omega | exact tb_sm0 | exact tb_sm1 _ | exact tb_sm2 _ _ | exact tb_sm3 _ _ _ | exact tb_sm4 _ _ _ _ | exact Or.inl rfl | exact Or.inr rfl | fail) only [r156_737, r156_738, r156_739, r156_740, r156_741, r156_742, r156_743, ld1, nI_add, tb_vl_some, tb_vl_none, tb_wF_some]
  refine k_restsIn hC hW.1 (by omega) (fun h2 hC2 hF2 => ?_)
  have hB2 := hB.fr (fun q hq => hF2 q (by omega))
  have hM2 := hM.fr (h' := h2) (fun q q1 q2 => hF2 q (by omega))
  have oM2 := hM2.O
  have ld2 := fun {j : Nat} (hj : j < L) {K : Int32 → Prop} => hB2.ld hj (K := K)
  try simp (disch := first | assumption | omega | exact tb_sm0 | exact tb_sm1 _ | exact tb_sm2 _ _ | exact tb_sm3 _ _ _ | exact tb_sm4 _ _ _ _ | exact Or.inl rfl | exact Or.inr rfl | fail) only [r156_746, r156_747, r156_748, r156_749, r156_750, r156_751, r156_752, ld2, nI_add, tb_vl_some, tb_vl_none, tb_wF_some]
  refine m_restsIn hM2 hW.1 (by omega) (fun h3 hM3 hF3 => ?_)
  try simp (disch := first | assumption | omega | exact tb_sm0 | exact tb_sm1 _ | exact tb_sm2 _ _ | exact tb_sm3 _ _ _ | exact tb_sm4 _ _ _ _ | exact Or.inl rfl | exact Or.inr rfl | fail) only [r156_755, tb_vl_some, tb_vl_none, tb_wF_some, eq_self, if_true, ↓reduceIte]
  have hC3 := hC2.fr (h' := h3) (fun q q1 q2 => hF3 q (by omega))
  exact hQ h3 _ _ _ _ ⟨hC3, hM3, hW, hH, hS, hT6, hTx⟩ (fun q hq => by rw [hF3 q (by omega), hF2 q (by omega)])
theorem op_22 (hI : lo_I h x s hs kn g) (hB : lo_B E h x b L xs) (hi : i + 5 ≤ L) (hd : 10 ≤ d) (hQ : ∀ h' s' hs' kn' g', lo_I h' x s' hs' kn' g' → (∀ q, q < x → h' q = h q) → tb_wp E d 156 908 [.ref b, .ref x, .ref (x + 198), .int (nI i)] [] h' nx bc bs Q) :
    tb_wp E d 156 760 [.ref b, .ref x, .ref (x + 198), .int (nI i)] [] h nx bc bs Q := by
  obtain ⟨hC, hM, hW, hH, hS, hT6, hTx⟩ := hI
  have oC := hC.1.O
  have oM := hM.O
  have hL31 : L ≤ 2560 := hB.2.2.2.2
  have ld1 := fun {j : Nat} (hj : j < L) {K : Int32 → Prop} => hB.ld hj (K := K)
  simp (disch := first | assumption | omega | exact tb_sm0 | exact tb_sm1 _ | exact tb_sm2 _ _ | exact tb_sm3 _ _ _ | exact tb_sm4 _ _ _ _ | exact Or.inl rfl | exact Or.inr rfl | fail) only [r156_760, r156_761, r156_762, r156_763, r156_764, r156_765, r156_766, r156_767, r156_768, r156_769, r156_770, r156_771, r156_772, r156_773, r156_774, r156_775, r156_776, ld1, nI_add, tb_vl_some, tb_vl_none, tb_wF_some]
  refine k_ifTilted hC hW.1 (by omega) (fun h2 hC2 hF2 => ?_)
  have hB2 := hB.fr (fun q hq => hF2 q (by omega))
  have hM2 := hM.fr (h' := h2) (fun q q1 q2 => hF2 q (by omega))
  have oM2 := hM2.O
  have ld2 := fun {j : Nat} (hj : j < L) {K : Int32 → Prop} => hB2.ld hj (K := K)
  try simp (disch := first | assumption | omega | exact tb_sm0 | exact tb_sm1 _ | exact tb_sm2 _ _ | exact tb_sm3 _ _ _ | exact tb_sm4 _ _ _ _ | exact Or.inl rfl | exact Or.inr rfl | fail) only [r156_779, r156_780, r156_781, r156_782, r156_783, r156_784, r156_785, r156_786, r156_787, r156_788, r156_789, r156_790, r156_791, r156_792, r156_793, r156_794, r156_795, ld2, nI_add, tb_vl_some, tb_vl_none, tb_wF_some]
  refine m_ifTilted hM2 hW.1 (by omega) (fun h3 hM3 hF3 => ?_)
  try simp (disch := first | assumption | omega | exact tb_sm0 | exact tb_sm1 _ | exact tb_sm2 _ _ | exact tb_sm3 _ _ _ | exact tb_sm4 _ _ _ _ | exact Or.inl rfl | exact Or.inr rfl | fail) only [r156_798, tb_vl_some, tb_vl_none, tb_wF_some, eq_self, if_true, ↓reduceIte]
  have hC3 := hC2.fr (h' := h3) (fun q q1 q2 => hF3 q (by omega))
  exact hQ h3 _ _ _ _ ⟨hC3, hM3, hW, hH, hS, hT6, hTx⟩ (fun q hq => by rw [hF3 q (by omega), hF2 q (by omega)])
theorem op_23 (hI : lo_I h x s hs kn g) (hB : lo_B E h x b L xs) (hi : i + 5 ≤ L) (hd : 10 ≤ d) (hQ : ∀ h' s' hs' kn' g', lo_I h' x s' hs' kn' g' → (∀ q, q < x → h' q = h q) → tb_wp E d 156 908 [.ref b, .ref x, .ref (x + 198), .int (nI i)] [] h' nx bc bs Q) :
    tb_wp E d 156 803 [.ref b, .ref x, .ref (x + 198), .int (nI i)] [] h nx bc bs Q := by
  obtain ⟨hC, hM, hW, hH, hS, hT6, hTx⟩ := hI
  have oC := hC.1.O
  have oM := hM.O
  have hL31 : L ≤ 2560 := hB.2.2.2.2
  have ld1 := fun {j : Nat} (hj : j < L) {K : Int32 → Prop} => hB.ld hj (K := K)
  simp (disch := first | assumption | omega | exact tb_sm0 | exact tb_sm1 _ | exact tb_sm2 _ _ | exact tb_sm3 _ _ _ | exact tb_sm4 _ _ _ _ | exact Or.inl rfl | exact Or.inr rfl | fail) only [r156_803, r156_804, r156_805, r156_806, r156_807, r156_808, r156_809, ld1, nI_add, tb_vl_some, tb_vl_none, tb_wF_some]
  refine k_clearingAngle hC hW.1 (by omega) (fun h2 hC2 hF2 => ?_)
  have hB2 := hB.fr (fun q hq => hF2 q (by omega))
  have hM2 := hM.fr (h' := h2) (fun q q1 q2 => hF2 q (by omega))
  have oM2 := hM2.O
  have ld2 := fun {j : Nat} (hj : j < L) {K : Int32 → Prop} => hB2.ld hj (K := K)
  try simp (disch := first | assumption | omega | exact tb_sm0 | exact tb_sm1 _ | exact tb_sm2 _ _ | exact tb_sm3 _ _ _ | exact tb_sm4 _ _ _ _ | exact Or.inl rfl | exact Or.inr rfl | fail) only [r156_812, r156_813, r156_814, r156_815, r156_816, r156_817, r156_818, ld2, nI_add, tb_vl_some, tb_vl_none, tb_wF_some]
  refine m_clearingAngle hM2 hW.1 (by omega) (fun h3 hM3 hF3 => ?_)
  try simp (disch := first | assumption | omega | exact tb_sm0 | exact tb_sm1 _ | exact tb_sm2 _ _ | exact tb_sm3 _ _ _ | exact tb_sm4 _ _ _ _ | exact Or.inl rfl | exact Or.inr rfl | fail) only [r156_821, tb_vl_some, tb_vl_none, tb_wF_some, eq_self, if_true, ↓reduceIte]
  have hC3 := hC2.fr (h' := h3) (fun q q1 q2 => hF3 q (by omega))
  exact hQ h3 _ _ _ _ ⟨hC3, hM3, hW, hH, hS, hT6, hTx⟩ (fun q hq => by rw [hF3 q (by omega), hF2 q (by omega)])
theorem op_24 (hI : lo_I h x s hs kn g) (hB : lo_B E h x b L xs) (hi : i + 5 ≤ L) (hd : 10 ≤ d) (hQ : ∀ h' s' hs' kn' g', lo_I h' x s' hs' kn' g' → (∀ q, q < x → h' q = h q) → tb_wp E d 156 908 [.ref b, .ref x, .ref (x + 198), .int (nI i)] [] h' nx bc bs Q) :
    tb_wp E d 156 826 [.ref b, .ref x, .ref (x + 198), .int (nI i)] [] h nx bc bs Q := by
  obtain ⟨hC, hM, hW, hH, hS, hT6, hTx⟩ := hI
  have oC := hC.1.O
  have oM := hM.O
  have hL31 : L ≤ 2560 := hB.2.2.2.2
  have ld1 := fun {j : Nat} (hj : j < L) {K : Int32 → Prop} => hB.ld hj (K := K)
  obtain ⟨po, wr, sp, as, ah, cm, od, bf, hG, hHi⟩ := hM
  have hM : tb_MF h (x + 198) s hs kn g := ⟨po, wr, sp, as, ah, cm, od, bf, hG, hHi⟩
  have key : ∀ w, w = (if xs (i + 3) = 0 then nI 0 else nI 1) → tb_wp E d 156 850 [.ref b, .ref x, .ref (x + 198), .int (nI i)] [.int w, .int (xs (i + 2)), .int (xs (i + 1)), .ref x] h nx bc bs Q := by
    intro w hw
    simp (disch := first | assumption | omega | exact tb_sm0 | exact tb_sm1 _ | exact tb_sm2 _ _ | exact tb_sm3 _ _ _ | exact tb_sm4 _ _ _ _ | exact Or.inl rfl | exact Or.inr rfl | fail) only [r156_850, tb_vl_some, tb_vl_none, tb_wF_some]
    refine k_weighs hC hW.1 (by omega) ?_
    by_cases c : xs (i + 3) = 0
    · rw [if_pos c] at hw
      subst hw
      simp (disch := first | assumption | omega | exact tb_sm0 | exact tb_sm1 _ | exact tb_sm2 _ _ | exact tb_sm3 _ _ _ | exact tb_sm4 _ _ _ _ | exact Or.inl rfl | exact Or.inr rfl | fail) only [r156_853, r156_854, r156_855, r156_856, r156_857, r156_858, r156_859, r156_860, r156_861, r156_862, r156_863, r156_864, r156_865, r156_866, r156_867, r156_868, r156_869, r156_872, r156_873, r156_876, r156_877, r156_880, ld1, nI_add, tb_vl_some, tb_vl_none, tb_wF_some, eq_true c, m_weighs (tb_MG.S hG) hW.1 (show 2 ≤ d - 1 by omega), eq_self, if_true, ↓reduceIte]
      exact hQ h _ _ _ _ ⟨hC, hM, hW, hH, hS, hT6, hTx⟩ (fun _ _ => rfl)
    · rw [if_neg c] at hw
      subst hw
      simp (disch := first | assumption | omega | exact tb_sm0 | exact tb_sm1 _ | exact tb_sm2 _ _ | exact tb_sm3 _ _ _ | exact tb_sm4 _ _ _ _ | exact Or.inl rfl | exact Or.inr rfl | fail) only [r156_853, r156_854, r156_855, r156_856, r156_857, r156_858, r156_859, r156_860, r156_861, r156_862, r156_863, r156_864, r156_865, r156_866, r156_867, r156_868, r156_869, r156_872, r156_873, r156_876, r156_877, r156_880, ld1, nI_add, tb_vl_some, tb_vl_none, tb_wF_some, c, if_false, m_weighs (tb_MG.S hG) hW.1 (show 2 ≤ d - 1 by omega), eq_self, if_true, ↓reduceIte]
      exact hQ h _ _ _ _ ⟨hC, hM, hW, hH, hS, hT6, hTx⟩ (fun _ _ => rfl)
  by_cases c : xs (i + 3) = 0
  · have k := key _ (if_pos c).symm
    simp (disch := first | assumption | omega | exact tb_sm0 | exact tb_sm1 _ | exact tb_sm2 _ _ | exact tb_sm3 _ _ _ | exact tb_sm4 _ _ _ _ | exact Or.inl rfl | exact Or.inr rfl | fail) only [r156_826, r156_827, r156_828, r156_829, r156_830, r156_831, r156_832, r156_833, r156_834, r156_835, r156_836, r156_837, r156_838, r156_839, r156_840, r156_841, r156_842, r156_845, r156_846, r156_849, ld1, nI_add, tb_vl_some, tb_vl_none, tb_wF_some, eq_true c, eq_self, if_true, ↓reduceIte]
    exact k
  · have k := key _ (if_neg c).symm
    simp (disch := first | assumption | omega | exact tb_sm0 | exact tb_sm1 _ | exact tb_sm2 _ _ | exact tb_sm3 _ _ _ | exact tb_sm4 _ _ _ _ | exact Or.inl rfl | exact Or.inr rfl | fail) only [r156_826, r156_827, r156_828, r156_829, r156_830, r156_831, r156_832, r156_833, r156_834, r156_835, r156_836, r156_837, r156_838, r156_839, r156_840, r156_841, r156_842, r156_845, r156_846, r156_849, ld1, nI_add, tb_vl_some, tb_vl_none, tb_wF_some, c, if_false, eq_self, if_true, ↓reduceIte]
    exact k
theorem op_25 (hI : lo_I h x s hs kn g) (hB : lo_B E h x b L xs) (hi : i + 5 ≤ L) (hd : 10 ≤ d) (hQ : ∀ h' s' hs' kn' g', lo_I h' x s' hs' kn' g' → (∀ q, q < x → h' q = h q) → tb_wp E d 156 908 [.ref b, .ref x, .ref (x + 198), .int (nI i)] [] h' nx bc bs Q) :
    tb_wp E d 156 885 [.ref b, .ref x, .ref (x + 198), .int (nI i)] [] h nx bc bs Q := by
  obtain ⟨hC, hM, hW, hH, hS, hT6, hTx⟩ := hI
  have oC := hC.1.O
  have oM := hM.O
  have hL31 : L ≤ 2560 := hB.2.2.2.2
  have ld1 := fun {j : Nat} (hj : j < L) {K : Int32 → Prop} => hB.ld hj (K := K)
  obtain ⟨po, wr, sp, as, ah, cm, od, bf, hG, hHi⟩ := hM
  have hM : tb_MF h (x + 198) s hs kn g := ⟨po, wr, sp, as, ah, cm, od, bf, hG, hHi⟩
  simp (disch := first | assumption | omega | exact tb_sm0 | exact tb_sm1 _ | exact tb_sm2 _ _ | exact tb_sm3 _ _ _ | exact tb_sm4 _ _ _ _ | exact Or.inl rfl | exact Or.inr rfl | fail) only [r156_885, r156_886, r156_887, r156_888, r156_889, r156_890, r156_891, ld1, nI_add, tb_vl_some, tb_vl_none, tb_wF_some]
  refine k_count hC hW.1 (by omega) ?_
  simp (disch := first | assumption | omega | exact tb_sm0 | exact tb_sm1 _ | exact tb_sm2 _ _ | exact tb_sm3 _ _ _ | exact tb_sm4 _ _ _ _ | exact Or.inl rfl | exact Or.inr rfl | fail) only [r156_894, r156_895, r156_896, r156_897, r156_898, r156_899, r156_900, r156_903, r156_906, r156_907, ld1, nI_add, tb_vl_some, tb_vl_none, tb_wF_some, m_count (kn := nI 0) (le := nI 0) hG.1 (tb_MG.S hG) hW.1 (show 5 ≤ d - 1 by omega), eq_self, if_true, ↓reduceIte]
  exact hQ h _ _ _ _ ⟨hC, hM, hW, hH, hS, hT6, hTx⟩ (fun _ _ => rfl)
end LO
