/-! THE LAW: one order of the script -/
theorem tb_CF.fr {h h' : tb_heap} {x kn : Nat} {s : Nat → Nat} {hs : Nat → Nat → Nat} {g : sp_G} (hC : tb_CF h x s hs kn g) (hF : ∀ q, x ≤ q → q < x + 198 → h' q = h q) : tb_CF h' x s hs kn g := by
  obtain ⟨a1, a2, ⟨bs, a3⟩, a4, a5, a6, a7⟩ := hC
  exact ⟨(hF x (by omega) (by omega)).trans a1, a2.fr (fun q q1 q2 => hF q (by omega) (by omega)), ⟨bs, a3.fr (fun q q1 q2 => hF q (by omega) (by omega))⟩, a4.fr (fun q q1 q2 => hF q (by omega) (by omega)), a5.fr (fun q q1 q2 => hF q (by omega) (by omega)), a6.fr (fun q q1 q2 => hF q (by omega) (by omega)), a7.fr (fun q q1 q2 => hF q (by omega) (by omega))⟩
theorem tb_MF.fr {h h' : tb_heap} {m kn : Nat} {s : Nat → Nat} {hs : Nat → Nat → Nat} {g : sp_G} (hM : tb_MF h m s hs kn g) (hF : ∀ q, m ≤ q → q < m + 9 → h' q = h q) : tb_MF h' m s hs kn g := by
  obtain ⟨po, wr, sp, as, ah, cm, od, bf, ⟨a1, a2, a3, a4, a5, a6, a7, a8, a9⟩, hH⟩ := hM
  exact ⟨po, wr, sp, as, ah, cm, od, bf, ⟨(hF m (by omega) (by omega)).trans a1, a2.to (hF _ (by omega) (by omega)) (fun _ _ => rfl), a3.to (hF _ (by omega) (by omega)) (fun _ _ => rfl), a4.to (hF _ (by omega) (by omega)) (fun _ _ => rfl), a5.to (hF _ (by omega) (by omega)) (fun _ _ => rfl), a6.to (hF _ (by omega) (by omega)) (fun _ _ => rfl), a7.to (hF _ (by omega) (by omega)) (fun _ _ => rfl), a8.to (hF _ (by omega) (by omega)) (fun _ _ => rfl), a9.to (hF _ (by omega) (by omega)) (fun _ _ => rfl)⟩, hH⟩
theorem tb_MF.O {h : tb_heap} {m kn : Nat} {s : Nat → Nat} {hs : Nat → Nat → Nat} {g : sp_G} (hM : tb_MF h m s hs kn g) : tb_isO h m 6 := by
  obtain ⟨po, wr, sp, as, ah, cm, od, bf, hG, hH⟩ := hM
  exact hG.1.O
def lo_I (h : tb_heap) (x : Nat) (s : Nat → Nat) (hs : Nat → Nat → Nat) (kn : Nat) (g : sp_G) : Prop := tb_CF h x s hs kn g ∧ tb_MF h (x + 198) s hs kn g ∧ sp_W s ∧ (∀ i, i < kn → sp_W (hs i)) ∧ (g.2.1 = 0 ∨ (g.2.1 = 1 ∧ sp_W g.1)) ∧ g.2.2.2.1 ≤ 60 ∧ (∀ j, g.2.2.1 j < 65536)
def lo_B (E : tb_env) (h : tb_heap) (x b L : Nat) (xs : Nat → Int32) : Prop := tb_SX E h x ∧ b < x ∧ h b = none ∧ E.2.1 b = some (L, xs) ∧ L ≤ 2560
theorem lo_B.fr {E : tb_env} {h h' : tb_heap} {x b L : Nat} {xs : Nat → Int32} (hB : lo_B E h x b L xs) (hF : ∀ q, q < x → h' q = h q) : lo_B E h' x b L xs := ⟨hB.1.fr hF, hB.2.1, (hF b hB.2.1).trans hB.2.2.1, hB.2.2.2⟩
theorem lo_B.ld {E : tb_env} {h : tb_heap} {x b L : Nat} {xs : Nat → Int32} (hB : lo_B E h x b L xs) {j : Nat} (hj : j < L) {K : Int32 → Prop} : tb_wF (tb_ld E h 0 b (nI j)) K = K (xs j) := by
  obtain ⟨_, _, hn, hE, hL⟩ := hB
  have e : tb_ld E h 0 b (nI j) = some (xs j) := by
    unfold tb_ld tb_ra
    rw [hn]
    dsimp only
    rw [if_pos rfl, hE]
    dsimp only
    rw [nI_clamp (by omega), if_neg (fun q => q.elim (fun q => by rw [e_lt0 (by omega)] at q; exact q) (fun q => by omega))]
  rw [e]
  rfl
theorem rec_W {hs : Nat → Nat → Nat} {kn : Nat} {s : Nat → Nat} (hH : ∀ i, i < kn → sp_W (hs i)) (hW : sp_W s) : ∀ i, i < (sp_rec hs kn s).2 → sp_W ((sp_rec hs kn s).1 i) := by
  intro i hi
  unfold sp_rec at hi ⊢
  by_cases c : kn = 4
  · rw [if_pos c] at hi ⊢
    dsimp only at hi ⊢
    split
    · exact hW
    · exact hH _ (by omega)
  · rw [if_neg c] at hi ⊢
    dsimp only at hi ⊢
    split
    · exact hW
    · exact hH _ (by omega)
theorem rc_W {r : Int32} {hs : Nat → Nat → Nat} {kn : Nat} {s : Nat → Nat} (hH : ∀ i, i < kn → sp_W (hs i)) (hW : sp_W s) : ∀ i, i < (sp_rc r hs kn s).2 → sp_W ((sp_rc r hs kn s).1 i) := by
  unfold sp_rc
  split
  · exact hH
  · exact rec_W hH hW
theorem e_i2c (v : Int32) : ∃ c, c < 65536 ∧ (v.toUInt32 % 65536).toInt32 = nI c := by
  refine ⟨(v.toUInt32 % 65536).toNat, ?_, ?_⟩
  · rw [UInt32.toNat_mod]
    exact Nat.mod_lt _ (by decide)
  · apply Int32.toInt_inj.mp
    have h1 : (v.toUInt32 % 65536).toNat < 65536 := by rw [UInt32.toNat_mod]; exact Nat.mod_lt _ (by decide)
    generalize v.toUInt32 % 65536 = u at *
    rw [nI_toInt (by omega)]
    show u.toBitVec.toInt = (u.toBitVec.toNat : Int)
    exact BitVec.toInt_eq_toNat_of_lt (by have : u.toNat = u.toBitVec.toNat := rfl; omega)
section LO
variable {E : tb_env} {d : Nat} {h : tb_heap} {nx bc bs : Nat} {Q : Option Value → tb_heap → Nat → Prop} {x b L i kn : Nat} {xs : Nat → Int32} {s : Nat → Nat} {hs : Nat → Nat → Nat} {g : sp_G}
theorem op_0 (hI : lo_I h x s hs kn g) (hB : lo_B E h x b L xs) (hi : i + 5 ≤ L) (hd : 10 ≤ d) (hQ : ∀ h' s' hs' kn' g', lo_I h' x s' hs' kn' g' → (∀ q, q < x → h' q = h q) → tb_wp E d 155 908 [.ref b, .ref x, .ref (x + 198), .int (nI i)] [] h' nx bc bs Q) :
    tb_wp E d 155 152 [.ref b, .ref x, .ref (x + 198), .int (nI i)] [] h nx bc bs Q := by
  obtain ⟨hC, hM, hW, hH, hS, hT6, hTx⟩ := hI
  have oC := hC.1.O
  have oM := hM.O
  have hL31 : L ≤ 2560 := hB.2.2.2.2
  have ld1 := fun {j : Nat} (hj : j < L) {K : Int32 → Prop} => hB.ld hj (K := K)
  simp (disch := first | assumption | omega | exact tb_sm0 | exact tb_sm1 _ | exact tb_sm2 _ _ | exact tb_sm3 _ _ _ | exact tb_sm4 _ _ _ _ | exact Or.inl rfl | exact Or.inr rfl | fail) only [r155_152, r155_153, r155_154, r155_155, r155_156, r155_157, r155_158, r155_159, r155_160, r155_161, r155_162, r155_163, ld1, nI_add, tb_vl_some, tb_vl_none, tb_wF_some]
  refine k_tilt hC hW (by omega) (fun h2 hC2 hF2 => ?_)
  have hB2 := hB.fr (fun q hq => hF2 q (by omega))
  have hM2 := hM.fr (h' := h2) (fun q q1 q2 => hF2 q (by omega))
  have oM2 := hM2.O
  have ld2 := fun {j : Nat} (hj : j < L) {K : Int32 → Prop} => hB2.ld hj (K := K)
  try simp (disch := first | assumption | omega | exact tb_sm0 | exact tb_sm1 _ | exact tb_sm2 _ _ | exact tb_sm3 _ _ _ | exact tb_sm4 _ _ _ _ | exact Or.inl rfl | exact Or.inr rfl | fail) only [r155_166, r155_167, r155_168, r155_169, r155_170, r155_171, r155_172, r155_173, r155_174, r155_175, r155_176, r155_177, ld2, nI_add, tb_vl_some, tb_vl_none, tb_wF_some]
  refine m_tilt hM2 hW.1 (by omega) (fun h3 hM3 hF3 => ?_)
  try simp (disch := first | assumption | omega | exact tb_sm0 | exact tb_sm1 _ | exact tb_sm2 _ _ | exact tb_sm3 _ _ _ | exact tb_sm4 _ _ _ _ | exact Or.inl rfl | exact Or.inr rfl | fail) only [r155_180, tb_vl_some, tb_vl_none, tb_wF_some, eq_self, if_true, ↓reduceIte]
  have hC3 := hC2.fr (h' := h3) (fun q q1 q2 => hF3 q (by omega))
  exact hQ h3 _ _ _ _ ⟨hC3, hM3, W_tilt hW _ _, rc_W hH hW, hS, hT6, hTx⟩ (fun q hq => by rw [hF3 q (by omega), hF2 q (by omega)])
theorem op_1 (hI : lo_I h x s hs kn g) (hB : lo_B E h x b L xs) (hi : i + 5 ≤ L) (hd : 10 ≤ d) (hQ : ∀ h' s' hs' kn' g', lo_I h' x s' hs' kn' g' → (∀ q, q < x → h' q = h q) → tb_wp E d 155 908 [.ref b, .ref x, .ref (x + 198), .int (nI i)] [] h' nx bc bs Q) :
    tb_wp E d 155 185 [.ref b, .ref x, .ref (x + 198), .int (nI i)] [] h nx bc bs Q := by
  obtain ⟨hC, hM, hW, hH, hS, hT6, hTx⟩ := hI
  have oC := hC.1.O
  have oM := hM.O
  have hL31 : L ≤ 2560 := hB.2.2.2.2
  have ld1 := fun {j : Nat} (hj : j < L) {K : Int32 → Prop} => hB.ld hj (K := K)
  simp (disch := first | assumption | omega | exact tb_sm0 | exact tb_sm1 _ | exact tb_sm2 _ _ | exact tb_sm3 _ _ _ | exact tb_sm4 _ _ _ _ | exact Or.inl rfl | exact Or.inr rfl | fail) only [r155_185, r155_186, r155_187, r155_188, r155_189, r155_190, r155_191, r155_192, r155_193, r155_194, r155_195, r155_196, r155_197, r155_198, r155_199, r155_200, r155_201, r155_202, r155_203, r155_204, r155_205, r155_206, ld1, nI_add, tb_vl_some, tb_vl_none, tb_wF_some]
  refine k_pour hC hW (by omega) (fun h2 hC2 hF2 => ?_)
  have hB2 := hB.fr (fun q hq => hF2 q (by omega))
  have hM2 := hM.fr (h' := h2) (fun q q1 q2 => hF2 q (by omega))
  have oM2 := hM2.O
  have ld2 := fun {j : Nat} (hj : j < L) {K : Int32 → Prop} => hB2.ld hj (K := K)
  try simp (disch := first | assumption | omega | exact tb_sm0 | exact tb_sm1 _ | exact tb_sm2 _ _ | exact tb_sm3 _ _ _ | exact tb_sm4 _ _ _ _ | exact Or.inl rfl | exact Or.inr rfl | fail) only [r155_209, r155_210, r155_211, r155_212, r155_213, r155_214, r155_215, r155_216, r155_217, r155_218, r155_219, r155_220, r155_221, r155_222, r155_223, r155_224, r155_225, r155_226, r155_227, r155_228, r155_229, r155_230, ld2, nI_add, tb_vl_some, tb_vl_none, tb_wF_some]
  refine m_pour hM2 hW.1 (by omega) (fun h3 hM3 hF3 => ?_)
  try simp (disch := first | assumption | omega | exact tb_sm0 | exact tb_sm1 _ | exact tb_sm2 _ _ | exact tb_sm3 _ _ _ | exact tb_sm4 _ _ _ _ | exact Or.inl rfl | exact Or.inr rfl | fail) only [r155_233, tb_vl_some, tb_vl_none, tb_wF_some, eq_self, if_true, ↓reduceIte]
  have hC3 := hC2.fr (h' := h3) (fun q q1 q2 => hF3 q (by omega))
  exact hQ h3 _ _ _ _ ⟨hC3, hM3, W_pour hW _ _ _ _, rc_W hH hW, hS, hT6, hTx⟩ (fun q hq => by rw [hF3 q (by omega), hF2 q (by omega)])
theorem op_2 (hI : lo_I h x s hs kn g) (hB : lo_B E h x b L xs) (hi : i + 5 ≤ L) (hd : 10 ≤ d) (hQ : ∀ h' s' hs' kn' g', lo_I h' x s' hs' kn' g' → (∀ q, q < x → h' q = h q) → tb_wp E d 155 908 [.ref b, .ref x, .ref (x + 198), .int (nI i)] [] h' nx bc bs Q) :
    tb_wp E d 155 238 [.ref b, .ref x, .ref (x + 198), .int (nI i)] [] h nx bc bs Q := by
  obtain ⟨hC, hM, hW, hH, hS, hT6, hTx⟩ := hI
  have oC := hC.1.O
  have oM := hM.O
  have hL31 : L ≤ 2560 := hB.2.2.2.2
  have ld1 := fun {j : Nat} (hj : j < L) {K : Int32 → Prop} => hB.ld hj (K := K)
  simp (disch := first | assumption | omega | exact tb_sm0 | exact tb_sm1 _ | exact tb_sm2 _ _ | exact tb_sm3 _ _ _ | exact tb_sm4 _ _ _ _ | exact Or.inl rfl | exact Or.inr rfl | fail) only [r155_238, r155_239, r155_240, r155_241, r155_242, r155_243, r155_244, ld1, nI_add, tb_vl_some, tb_vl_none, tb_wF_some]
  refine k_jolt hC hW (by omega) (fun h2 hC2 hF2 => ?_)
  have hB2 := hB.fr (fun q hq => hF2 q (by omega))
  have hM2 := hM.fr (h' := h2) (fun q q1 q2 => hF2 q (by omega))
  have oM2 := hM2.O
  have ld2 := fun {j : Nat} (hj : j < L) {K : Int32 → Prop} => hB2.ld hj (K := K)
  try simp (disch := first | assumption | omega | exact tb_sm0 | exact tb_sm1 _ | exact tb_sm2 _ _ | exact tb_sm3 _ _ _ | exact tb_sm4 _ _ _ _ | exact Or.inl rfl | exact Or.inr rfl | fail) only [r155_247, r155_248, r155_249, r155_250, r155_251, r155_252, r155_253, ld2, nI_add, tb_vl_some, tb_vl_none, tb_wF_some]
  refine m_jolt hM2 hW.1 (by omega) (fun h3 hM3 hF3 => ?_)
  try simp (disch := first | assumption | omega | exact tb_sm0 | exact tb_sm1 _ | exact tb_sm2 _ _ | exact tb_sm3 _ _ _ | exact tb_sm4 _ _ _ _ | exact Or.inl rfl | exact Or.inr rfl | fail) only [r155_256, tb_vl_some, tb_vl_none, tb_wF_some, eq_self, if_true, ↓reduceIte]
  have hC3 := hC2.fr (h' := h3) (fun q q1 q2 => hF3 q (by omega))
  exact hQ h3 _ _ _ _ ⟨hC3, hM3, W_jolt hW _, rc_W hH hW, hS, hT6, hTx⟩ (fun q hq => by rw [hF3 q (by omega), hF2 q (by omega)])
theorem op_3 (hI : lo_I h x s hs kn g) (hB : lo_B E h x b L xs) (hi : i + 5 ≤ L) (hd : 10 ≤ d) (hQ : ∀ h' s' hs' kn' g', lo_I h' x s' hs' kn' g' → (∀ q, q < x → h' q = h q) → tb_wp E d 155 908 [.ref b, .ref x, .ref (x + 198), .int (nI i)] [] h' nx bc bs Q) :
    tb_wp E d 155 261 [.ref b, .ref x, .ref (x + 198), .int (nI i)] [] h nx bc bs Q := by
  obtain ⟨hC, hM, hW, hH, hS, hT6, hTx⟩ := hI
  have oC := hC.1.O
  have oM := hM.O
  have hL31 : L ≤ 2560 := hB.2.2.2.2
  have ld1 := fun {j : Nat} (hj : j < L) {K : Int32 → Prop} => hB.ld hj (K := K)
  simp (disch := first | assumption | omega | exact tb_sm0 | exact tb_sm1 _ | exact tb_sm2 _ _ | exact tb_sm3 _ _ _ | exact tb_sm4 _ _ _ _ | exact Or.inl rfl | exact Or.inr rfl | fail) only [r155_261, r155_262, r155_263, r155_264, r155_265, r155_266, r155_267, ld1, nI_add, tb_vl_some, tb_vl_none, tb_wF_some]
  refine k_emptyPan hC hW (by omega) (fun h2 hC2 hF2 => ?_)
  have hB2 := hB.fr (fun q hq => hF2 q (by omega))
  have hM2 := hM.fr (h' := h2) (fun q q1 q2 => hF2 q (by omega))
  have oM2 := hM2.O
  have ld2 := fun {j : Nat} (hj : j < L) {K : Int32 → Prop} => hB2.ld hj (K := K)
  try simp (disch := first | assumption | omega | exact tb_sm0 | exact tb_sm1 _ | exact tb_sm2 _ _ | exact tb_sm3 _ _ _ | exact tb_sm4 _ _ _ _ | exact Or.inl rfl | exact Or.inr rfl | fail) only [r155_270, r155_271, r155_272, r155_273, r155_274, r155_275, r155_276, ld2, nI_add, tb_vl_some, tb_vl_none, tb_wF_some]
  refine m_emptyPan hM2 hW.2 (by omega) (fun h3 hM3 hF3 => ?_)
  try simp (disch := first | assumption | omega | exact tb_sm0 | exact tb_sm1 _ | exact tb_sm2 _ _ | exact tb_sm3 _ _ _ | exact tb_sm4 _ _ _ _ | exact Or.inl rfl | exact Or.inr rfl | fail) only [r155_279, tb_vl_some, tb_vl_none, tb_wF_some, eq_self, if_true, ↓reduceIte]
  have hC3 := hC2.fr (h' := h3) (fun q q1 q2 => hF3 q (by omega))
  exact hQ h3 _ _ _ _ ⟨hC3, hM3, W_empty hW _, rc_W hH hW, hS, hT6, hTx⟩ (fun q hq => by rw [hF3 q (by omega), hF2 q (by omega)])
theorem op_4 (hI : lo_I h x s hs kn g) (hB : lo_B E h x b L xs) (hi : i + 5 ≤ L) (hd : 10 ≤ d) (hQ : ∀ h' s' hs' kn' g', lo_I h' x s' hs' kn' g' → (∀ q, q < x → h' q = h q) → tb_wp E d 155 908 [.ref b, .ref x, .ref (x + 198), .int (nI i)] [] h' nx bc bs Q) :
    tb_wp E d 155 284 [.ref b, .ref x, .ref (x + 198), .int (nI i)] [] h nx bc bs Q := by
  obtain ⟨hC, hM, hW, hH, hS, hT6, hTx⟩ := hI
  have oC := hC.1.O
  have oM := hM.O
  have hL31 : L ≤ 2560 := hB.2.2.2.2
  have ld1 := fun {j : Nat} (hj : j < L) {K : Int32 → Prop} => hB.ld hj (K := K)
  simp (disch := first | assumption | omega | exact tb_sm0 | exact tb_sm1 _ | exact tb_sm2 _ _ | exact tb_sm3 _ _ _ | exact tb_sm4 _ _ _ _ | exact Or.inl rfl | exact Or.inr rfl | fail) only [r155_284, r155_285, r155_286, r155_287, r155_288, r155_289, r155_290, r155_291, r155_292, r155_293, r155_294, r155_295, ld1, nI_add, tb_vl_some, tb_vl_none, tb_wF_some]
  refine k_setGrip hC hW (by omega) (fun h2 hC2 hF2 => ?_)
  have hB2 := hB.fr (fun q hq => hF2 q (by omega))
  have hM2 := hM.fr (h' := h2) (fun q q1 q2 => hF2 q (by omega))
  have oM2 := hM2.O
  have ld2 := fun {j : Nat} (hj : j < L) {K : Int32 → Prop} => hB2.ld hj (K := K)
  try simp (disch := first | assumption | omega | exact tb_sm0 | exact tb_sm1 _ | exact tb_sm2 _ _ | exact tb_sm3 _ _ _ | exact tb_sm4 _ _ _ _ | exact Or.inl rfl | exact Or.inr rfl | fail) only [r155_298, r155_299, r155_300, r155_301, r155_302, r155_303, r155_304, r155_305, r155_306, r155_307, r155_308, r155_309, ld2, nI_add, tb_vl_some, tb_vl_none, tb_wF_some]
  refine m_setGrip hM2 hW.1 (by omega) (fun h3 hM3 hF3 => ?_)
  try simp (disch := first | assumption | omega | exact tb_sm0 | exact tb_sm1 _ | exact tb_sm2 _ _ | exact tb_sm3 _ _ _ | exact tb_sm4 _ _ _ _ | exact Or.inl rfl | exact Or.inr rfl | fail) only [r155_312, tb_vl_some, tb_vl_none, tb_wF_some, eq_self, if_true, ↓reduceIte]
  have hC3 := hC2.fr (h' := h3) (fun q q1 q2 => hF3 q (by omega))
  exact hQ h3 _ _ _ _ ⟨hC3, hM3, W_grip hW _ _, rc_W hH hW, hS, hT6, hTx⟩ (fun q hq => by rw [hF3 q (by omega), hF2 q (by omega)])
theorem op_5 (hI : lo_I h x s hs kn g) (hB : lo_B E h x b L xs) (hi : i + 5 ≤ L) (hd : 10 ≤ d) (hQ : ∀ h' s' hs' kn' g', lo_I h' x s' hs' kn' g' → (∀ q, q < x → h' q = h q) → tb_wp E d 155 908 [.ref b, .ref x, .ref (x + 198), .int (nI i)] [] h' nx bc bs Q) :
    tb_wp E d 155 317 [.ref b, .ref x, .ref (x + 198), .int (nI i)] [] h nx bc bs Q := by
  obtain ⟨hC, hM, hW, hH, hS, hT6, hTx⟩ := hI
  have oC := hC.1.O
  have oM := hM.O
  have hL31 : L ≤ 2560 := hB.2.2.2.2
  have ld1 := fun {j : Nat} (hj : j < L) {K : Int32 → Prop} => hB.ld hj (K := K)
  simp (disch := first | assumption | omega | exact tb_sm0 | exact tb_sm1 _ | exact tb_sm2 _ _ | exact tb_sm3 _ _ _ | exact tb_sm4 _ _ _ _ | exact Or.inl rfl | exact Or.inr rfl | fail) only [r155_317, r155_318, r155_319, r155_320, r155_321, r155_322, r155_323, r155_324, r155_325, r155_326, r155_327, r155_328, ld1, nI_add, tb_vl_some, tb_vl_none, tb_wF_some]
  refine k_set hC hW hB.1 (by omega) (fun h2 hC2 hF2 => ?_)
  have hB2 := hB.fr (fun q hq => hF2 q (by omega))
  have hM2 := hM.fr (h' := h2) (fun q q1 q2 => hF2 q (by omega))
  have oM2 := hM2.O
  have ld2 := fun {j : Nat} (hj : j < L) {K : Int32 → Prop} => hB2.ld hj (K := K)
  try simp (disch := first | assumption | omega | exact tb_sm0 | exact tb_sm1 _ | exact tb_sm2 _ _ | exact tb_sm3 _ _ _ | exact tb_sm4 _ _ _ _ | exact Or.inl rfl | exact Or.inr rfl | fail) only [r155_331, r155_332, r155_333, r155_334, r155_335, r155_336, r155_337, r155_338, r155_339, r155_340, r155_341, r155_342, ld2, nI_add, tb_vl_some, tb_vl_none, tb_wF_some]
  refine m_set hM2 hW.1 (by omega) (fun h3 hM3 hF3 => ?_)
  try simp (disch := first | assumption | omega | exact tb_sm0 | exact tb_sm1 _ | exact tb_sm2 _ _ | exact tb_sm3 _ _ _ | exact tb_sm4 _ _ _ _ | exact Or.inl rfl | exact Or.inr rfl | fail) only [r155_345, tb_vl_some, tb_vl_none, tb_wF_some, eq_self, if_true, ↓reduceIte]
  have hC3 := hC2.fr (h' := h3) (fun q q1 q2 => hF3 q (by omega))
  exact hQ h3 _ _ _ _ ⟨hC3, hM3, W_set hW _ _, rc_W hH hW, hS, hT6, hTx⟩ (fun q hq => by rw [hF3 q (by omega), hF2 q (by omega)])
theorem op_6 (hI : lo_I h x s hs kn g) (hB : lo_B E h x b L xs) (hi : i + 5 ≤ L) (hd : 10 ≤ d) (hQ : ∀ h' s' hs' kn' g', lo_I h' x s' hs' kn' g' → (∀ q, q < x → h' q = h q) → tb_wp E d 155 908 [.ref b, .ref x, .ref (x + 198), .int (nI i)] [] h' nx bc bs Q) :
    tb_wp E d 155 350 [.ref b, .ref x, .ref (x + 198), .int (nI i)] [] h nx bc bs Q := by
  obtain ⟨hC, hM, hW, hH, hS, hT6, hTx⟩ := hI
  have oC := hC.1.O
  have oM := hM.O
  have hL31 : L ≤ 2560 := hB.2.2.2.2
  have ld1 := fun {j : Nat} (hj : j < L) {K : Int32 → Prop} => hB.ld hj (K := K)
  simp (disch := first | assumption | omega | exact tb_sm0 | exact tb_sm1 _ | exact tb_sm2 _ _ | exact tb_sm3 _ _ _ | exact tb_sm4 _ _ _ _ | exact Or.inl rfl | exact Or.inr rfl | fail) only [r155_350, r155_351, r155_352, r155_353, r155_354, r155_355, r155_356, ld1, nI_add, tb_vl_some, tb_vl_none, tb_wF_some]
  refine k_pass hC hW (by omega) (fun h2 hC2 hF2 => ?_)
  have hB2 := hB.fr (fun q hq => hF2 q (by omega))
  have hM2 := hM.fr (h' := h2) (fun q q1 q2 => hF2 q (by omega))
  have oM2 := hM2.O
  have ld2 := fun {j : Nat} (hj : j < L) {K : Int32 → Prop} => hB2.ld hj (K := K)
  try simp (disch := first | assumption | omega | exact tb_sm0 | exact tb_sm1 _ | exact tb_sm2 _ _ | exact tb_sm3 _ _ _ | exact tb_sm4 _ _ _ _ | exact Or.inl rfl | exact Or.inr rfl | fail) only [r155_359, r155_360, r155_361, r155_362, r155_363, r155_364, r155_365, ld2, nI_add, tb_vl_some, tb_vl_none, tb_wF_some]
  refine m_pass hM2 hW.1 hW.2 (by omega) (fun h3 hM3 hF3 => ?_)
  try simp (disch := first | assumption | omega | exact tb_sm0 | exact tb_sm1 _ | exact tb_sm2 _ _ | exact tb_sm3 _ _ _ | exact tb_sm4 _ _ _ _ | exact Or.inl rfl | exact Or.inr rfl | fail) only [r155_368, tb_vl_some, tb_vl_none, tb_wF_some, eq_self, if_true, ↓reduceIte]
  have hC3 := hC2.fr (h' := h3) (fun q q1 q2 => hF3 q (by omega))
  exact hQ h3 _ _ _ _ ⟨hC3, hM3, W_pass hW _, rc_W hH hW, hS, hT6, hTx⟩ (fun q hq => by rw [hF3 q (by omega), hF2 q (by omega)])
theorem op_7 (hI : lo_I h x s hs kn g) (hB : lo_B E h x b L xs) (hi : i + 5 ≤ L) (hd : 10 ≤ d) (hQ : ∀ h' s' hs' kn' g', lo_I h' x s' hs' kn' g' → (∀ q, q < x → h' q = h q) → tb_wp E d 155 908 [.ref b, .ref x, .ref (x + 198), .int (nI i)] [] h' nx bc bs Q) :
    tb_wp E d 155 373 [.ref b, .ref x, .ref (x + 198), .int (nI i)] [] h nx bc bs Q := by
  obtain ⟨hC, hM, hW, hH, hS, hT6, hTx⟩ := hI
  have oC := hC.1.O
  have oM := hM.O
  have hL31 : L ≤ 2560 := hB.2.2.2.2
  have ld1 := fun {j : Nat} (hj : j < L) {K : Int32 → Prop} => hB.ld hj (K := K)
  obtain ⟨c, hc, ec⟩ := e_i2c (xs (i + 1))
  by_cases c60 : g.2.2.2.1 = 60
  · obtain ⟨po, wr, sp, as, ah, cm, od, bf, hG, hHi⟩ := hM
    have hM : tb_MF h (x + 198) s hs kn g := ⟨po, wr, sp, as, ah, cm, od, bf, hG, hHi⟩
    simp (disch := first | assumption | omega | exact tb_sm0 | exact tb_sm1 _ | exact tb_sm2 _ _ | exact tb_sm3 _ _ _ | exact tb_sm4 _ _ _ _ | exact Or.inl rfl | exact Or.inr rfl | fail) only [r155_373, r155_374, r155_375, r155_376, r155_377, r155_378, r155_379, r155_380, r155_383, r155_384, r155_385, r155_386, r155_387, r155_388, r155_389, r155_390, r155_393, r155_396, r155_397, ld1, nI_add, tb_vl_some, tb_vl_none, tb_wF_some, k_type_f hC c60 (show 1 ≤ d - 1 by omega), m_type_f hM c60, eq_self, if_true, ↓reduceIte]
    exact hQ h _ _ _ _ ⟨hC, hM, hW, hH, hS, hT6, hTx⟩ (fun _ _ => rfl)
  · simp (disch := first | assumption | omega | exact tb_sm0 | exact tb_sm1 _ | exact tb_sm2 _ _ | exact tb_sm3 _ _ _ | exact tb_sm4 _ _ _ _ | exact Or.inl rfl | exact Or.inr rfl | fail) only [r155_373, r155_374, r155_375, r155_376, r155_377, r155_378, r155_379, r155_380, ld1, nI_add, tb_vl_some, tb_vl_none, tb_wF_some, ec]
    refine k_type hC (by omega) hc (by omega) (fun h2 hC2 hF2 => ?_)
    have hB2 := hB.fr (fun q hq => hF2 q (by omega))
    have hM2 := hM.fr (h' := h2) (fun q q1 q2 => hF2 q (by omega))
    have oM2 := hM2.O
    have ld2 := fun {j : Nat} (hj : j < L) {K : Int32 → Prop} => hB2.ld hj (K := K)
    try simp (disch := first | assumption | omega | exact tb_sm0 | exact tb_sm1 _ | exact tb_sm2 _ _ | exact tb_sm3 _ _ _ | exact tb_sm4 _ _ _ _ | exact Or.inl rfl | exact Or.inr rfl | fail) only [r155_383, r155_384, r155_385, r155_386, r155_387, r155_388, r155_389, r155_390, ld2, nI_add, tb_vl_some, tb_vl_none, tb_wF_some, ec]
    refine m_type hM2 (by omega) (fun h3 hM3 hF3 => ?_)
    try simp (disch := first | assumption | omega | exact tb_sm0 | exact tb_sm1 _ | exact tb_sm2 _ _ | exact tb_sm3 _ _ _ | exact tb_sm4 _ _ _ _ | exact Or.inl rfl | exact Or.inr rfl | fail) only [r155_393, tb_vl_some, tb_vl_none, tb_wF_some, eq_self, if_true, ↓reduceIte]
    have hC3 := hC2.fr (h' := h3) (fun q q1 q2 => hF3 q (by omega))
    refine hQ h3 _ _ _ _ ⟨hC3, hM3, hW, hH, hS, by show g.2.2.2.1 + 1 ≤ 60; omega, fun j => ?_⟩ (fun q hq => by rw [hF3 q (by omega), hF2 q (by omega)])
    show va_up g.2.2.1 g.2.2.2.1 c j < 65536
    unfold va_up
    split
    · exact hc
    · exact hTx j
theorem op_8 (hI : lo_I h x s hs kn g) (hB : lo_B E h x b L xs) (hi : i + 5 ≤ L) (hd : 10 ≤ d) (hQ : ∀ h' s' hs' kn' g', lo_I h' x s' hs' kn' g' → (∀ q, q < x → h' q = h q) → tb_wp E d 155 908 [.ref b, .ref x, .ref (x + 198), .int (nI i)] [] h' nx bc bs Q) :
    tb_wp E d 155 398 [.ref b, .ref x, .ref (x + 198), .int (nI i)] [] h nx bc bs Q := by
  obtain ⟨hC, hM, hW, hH, hS, hT6, hTx⟩ := hI
  have oC := hC.1.O
  have oM := hM.O
  have hL31 : L ≤ 2560 := hB.2.2.2.2
  have ld1 := fun {j : Nat} (hj : j < L) {K : Int32 → Prop} => hB.ld hj (K := K)
  simp (disch := first | assumption | omega | exact tb_sm0 | exact tb_sm1 _ | exact tb_sm2 _ _ | exact tb_sm3 _ _ _ | exact tb_sm4 _ _ _ _ | exact Or.inl rfl | exact Or.inr rfl | fail) only [r155_398, r155_399, ld1, nI_add, tb_vl_some, tb_vl_none, tb_wF_some]
  refine k_clearText hC (by omega) (fun h2 hC2 hF2 => ?_)
  have hB2 := hB.fr (fun q hq => hF2 q (by omega))
  have hM2 := hM.fr (h' := h2) (fun q q1 q2 => hF2 q (by omega))
  have oM2 := hM2.O
  have ld2 := fun {j : Nat} (hj : j < L) {K : Int32 → Prop} => hB2.ld hj (K := K)
  try simp (disch := first | assumption | omega | exact tb_sm0 | exact tb_sm1 _ | exact tb_sm2 _ _ | exact tb_sm3 _ _ _ | exact tb_sm4 _ _ _ _ | exact Or.inl rfl | exact Or.inr rfl | fail) only [r155_402, r155_403, ld2, nI_add, tb_vl_some, tb_vl_none, tb_wF_some]
  refine m_clearText hM2 (fun h3 hM3 hF3 => ?_)
  try simp (disch := first | assumption | omega | exact tb_sm0 | exact tb_sm1 _ | exact tb_sm2 _ _ | exact tb_sm3 _ _ _ | exact tb_sm4 _ _ _ _ | exact Or.inl rfl | exact Or.inr rfl | fail) only [r155_406, tb_vl_some, tb_vl_none, tb_wF_some, eq_self, if_true, ↓reduceIte]
  have hC3 := hC2.fr (h' := h3) (fun q q1 q2 => hF3 q (by omega))
  exact hQ h3 _ _ _ _ ⟨hC3, hM3, hW, hH, hS, Nat.zero_le _, hTx⟩ (fun q hq => by rw [hF3 q (by omega), hF2 q (by omega)])
theorem op_9 (hI : lo_I h x s hs kn g) (hB : lo_B E h x b L xs) (hi : i + 5 ≤ L) (hd : 10 ≤ d) (hQ : ∀ h' s' hs' kn' g', lo_I h' x s' hs' kn' g' → (∀ q, q < x → h' q = h q) → tb_wp E d 155 908 [.ref b, .ref x, .ref (x + 198), .int (nI i)] [] h' nx bc bs Q) :
    tb_wp E d 155 411 [.ref b, .ref x, .ref (x + 198), .int (nI i)] [] h nx bc bs Q := by
  obtain ⟨hC, hM, hW, hH, hS, hT6, hTx⟩ := hI
  have oC := hC.1.O
  have oM := hM.O
  have hL31 : L ≤ 2560 := hB.2.2.2.2
  have ld1 := fun {j : Nat} (hj : j < L) {K : Int32 → Prop} => hB.ld hj (K := K)
  simp (disch := first | assumption | omega | exact tb_sm0 | exact tb_sm1 _ | exact tb_sm2 _ _ | exact tb_sm3 _ _ _ | exact tb_sm4 _ _ _ _ | exact Or.inl rfl | exact Or.inr rfl | fail) only [r155_411, r155_412, ld1, nI_add, tb_vl_some, tb_vl_none, tb_wF_some]
  refine k_perform hC hW hTx hT6 (by omega) (fun h2 hC2 hF2 => ?_)
  have hB2 := hB.fr (fun q hq => hF2 q (by omega))
  have hM2 := hM.fr (h' := h2) (fun q q1 q2 => hF2 q (by omega))
  have oM2 := hM2.O
  have ld2 := fun {j : Nat} (hj : j < L) {K : Int32 → Prop} => hB2.ld hj (K := K)
  try simp (disch := first | assumption | omega | exact tb_sm0 | exact tb_sm1 _ | exact tb_sm2 _ _ | exact tb_sm3 _ _ _ | exact tb_sm4 _ _ _ _ | exact Or.inl rfl | exact Or.inr rfl | fail) only [r155_415, r155_416, ld2, nI_add, tb_vl_some, tb_vl_none, tb_wF_some]
  refine m_perform hM2 hW hTx hT6 (by omega) (fun h3 hM3 hF3 => ?_)
  try simp (disch := first | assumption | omega | exact tb_sm0 | exact tb_sm1 _ | exact tb_sm2 _ _ | exact tb_sm3 _ _ _ | exact tb_sm4 _ _ _ _ | exact Or.inl rfl | exact Or.inr rfl | fail) only [r155_419, tb_vl_some, tb_vl_none, tb_wF_some, eq_self, if_true, ↓reduceIte]
  have hC3 := hC2.fr (h' := h3) (fun q q1 q2 => hF3 q (by omega))
  have hgg : (∀ i, i < (ac_perf s hs kn g).2.2.2.1 → sp_W ((ac_perf s hs kn g).2.2.1 i)) ∧ ((ac_perf s hs kn g).2.2.2.2.2.1 = 0 ∨ ((ac_perf s hs kn g).2.2.2.2.2.1 = 1 ∧ sp_W (ac_perf s hs kn g).2.2.2.2.1)) ∧ (ac_perf s hs kn g).2.2.2.2.2.2.2.1 ≤ 60 ∧ ∀ j, (ac_perf s hs kn g).2.2.2.2.2.2.1 j < 65536 := by
    unfold ac_perf
    split
    · split
      · exact ⟨hH, hS, hT6, hTx⟩
      · exact ⟨rec_W hH hW, hS, hT6, hTx⟩
    · exact ⟨hH, hS, hT6, hTx⟩
  exact hQ h3 _ _ _ _ ⟨hC3, hM3, W_perf hW, hgg.1, hgg.2.1, hgg.2.2.1, hgg.2.2.2⟩ (fun q hq => by rw [hF3 q (by omega), hF2 q (by omega)])
theorem op_10 (hI : lo_I h x s hs kn g) (hB : lo_B E h x b L xs) (hi : i + 5 ≤ L) (hd : 10 ≤ d) (hQ : ∀ h' s' hs' kn' g', lo_I h' x s' hs' kn' g' → (∀ q, q < x → h' q = h q) → tb_wp E d 155 908 [.ref b, .ref x, .ref (x + 198), .int (nI i)] [] h' nx bc bs Q) :
    tb_wp E d 155 424 [.ref b, .ref x, .ref (x + 198), .int (nI i)] [] h nx bc bs Q := by
  obtain ⟨hC, hM, hW, hH, hS, hT6, hTx⟩ := hI
  have oC := hC.1.O
  have oM := hM.O
  have hL31 : L ≤ 2560 := hB.2.2.2.2
  have ld1 := fun {j : Nat} (hj : j < L) {K : Int32 → Prop} => hB.ld hj (K := K)
  simp (disch := first | assumption | omega | exact tb_sm0 | exact tb_sm1 _ | exact tb_sm2 _ _ | exact tb_sm3 _ _ _ | exact tb_sm4 _ _ _ _ | exact Or.inl rfl | exact Or.inr rfl | fail) only [r155_424, r155_425, r155_426, r155_427, r155_428, r155_429, r155_430, r155_433, r155_434, r155_435, r155_436, r155_437, r155_438, r155_439, r155_442, r155_445, r155_446, ld1, nI_add, tb_vl_some, tb_vl_none, tb_wF_some, k_stopped hC (show 1 ≤ d - 1 by omega), m_stopped hM, eq_self, if_true, ↓reduceIte]
  exact hQ h _ _ _ _ ⟨hC, hM, hW, hH, hS, hT6, hTx⟩ (fun _ _ => rfl)
theorem op_11 (hI : lo_I h x s hs kn g) (hB : lo_B E h x b L xs) (hi : i + 5 ≤ L) (hd : 10 ≤ d) (hQ : ∀ h' s' hs' kn' g', lo_I h' x s' hs' kn' g' → (∀ q, q < x → h' q = h q) → tb_wp E d 155 908 [.ref b, .ref x, .ref (x + 198), .int (nI i)] [] h' nx bc bs Q) :
    tb_wp E d 155 447 [.ref b, .ref x, .ref (x + 198), .int (nI i)] [] h nx bc bs Q := by
  obtain ⟨hC, hM, hW, hH, hS, hT6, hTx⟩ := hI
  have oC := hC.1.O
  have oM := hM.O
  have hL31 : L ≤ 2560 := hB.2.2.2.2
  have ld1 := fun {j : Nat} (hj : j < L) {K : Int32 → Prop} => hB.ld hj (K := K)
  cases kn with
  | zero =>
    simp (disch := first | assumption | omega | exact tb_sm0 | exact tb_sm1 _ | exact tb_sm2 _ _ | exact tb_sm3 _ _ _ | exact tb_sm4 _ _ _ _ | exact Or.inl rfl | exact Or.inr rfl | fail) only [r155_447, r155_448, r155_451, r155_452, r155_455, r155_458, r155_459, tb_vl_some, tb_vl_none, tb_wF_some, k_undo_0 hC, m_undo_0 hM, eq_self, if_true, ↓reduceIte]
    exact hQ h _ _ _ _ ⟨hC, hM, hW, hH, hS, hT6, hTx⟩ (fun _ _ => rfl)
  | succ kn =>
    simp (disch := first | assumption | omega | exact tb_sm0 | exact tb_sm1 _ | exact tb_sm2 _ _ | exact tb_sm3 _ _ _ | exact tb_sm4 _ _ _ _ | exact Or.inl rfl | exact Or.inr rfl | fail) only [r155_447, r155_448, ld1, nI_add, tb_vl_some, tb_vl_none, tb_wF_some]
    refine k_undo hC (by omega) (fun h2 hC2 hF2 => ?_)
    have hB2 := hB.fr (fun q hq => hF2 q (by omega))
    have hM2 := hM.fr (h' := h2) (fun q q1 q2 => hF2 q (by omega))
    have oM2 := hM2.O
    have ld2 := fun {j : Nat} (hj : j < L) {K : Int32 → Prop} => hB2.ld hj (K := K)
    try simp (disch := first | assumption | omega | exact tb_sm0 | exact tb_sm1 _ | exact tb_sm2 _ _ | exact tb_sm3 _ _ _ | exact tb_sm4 _ _ _ _ | exact Or.inl rfl | exact Or.inr rfl | fail) only [r155_451, r155_452, ld2, nI_add, tb_vl_some, tb_vl_none, tb_wF_some]
    refine m_undo hM2 (fun h3 hM3 hF3 => ?_)
    try simp (disch := first | assumption | omega | exact tb_sm0 | exact tb_sm1 _ | exact tb_sm2 _ _ | exact tb_sm3 _ _ _ | exact tb_sm4 _ _ _ _ | exact Or.inl rfl | exact Or.inr rfl | fail) only [r155_455, tb_vl_some, tb_vl_none, tb_wF_some, eq_self, if_true, ↓reduceIte]
    have hC3 := hC2.fr (h' := h3) (fun q q1 q2 => hF3 q (by omega))
    exact hQ h3 _ _ _ _ ⟨hC3, hM3, hH kn (by omega), fun i hi => hH i (by omega), hS, hT6, hTx⟩ (fun q hq => by rw [hF3 q (by omega), hF2 q (by omega)])
theorem op_12 (hI : lo_I h x s hs kn g) (hB : lo_B E h x b L xs) (hi : i + 5 ≤ L) (hd : 10 ≤ d) (hQ : ∀ h' s' hs' kn' g', lo_I h' x s' hs' kn' g' → (∀ q, q < x → h' q = h q) → tb_wp E d 155 908 [.ref b, .ref x, .ref (x + 198), .int (nI i)] [] h' nx bc bs Q) :
    tb_wp E d 155 460 [.ref b, .ref x, .ref (x + 198), .int (nI i)] [] h nx bc bs Q := by
  obtain ⟨hC, hM, hW, hH, hS, hT6, hTx⟩ := hI
  have oC := hC.1.O
  have oM := hM.O
  have hL31 : L ≤ 2560 := hB.2.2.2.2
  have ld1 := fun {j : Nat} (hj : j < L) {K : Int32 → Prop} => hB.ld hj (K := K)
  simp (disch := first | assumption | omega | exact tb_sm0 | exact tb_sm1 _ | exact tb_sm2 _ _ | exact tb_sm3 _ _ _ | exact tb_sm4 _ _ _ _ | exact Or.inl rfl | exact Or.inr rfl | fail) only [r155_460, r155_461, ld1, nI_add, tb_vl_some, tb_vl_none, tb_wF_some]
  refine k_keep hC (by omega) (fun h2 hC2 hF2 => ?_)
  have hB2 := hB.fr (fun q hq => hF2 q (by omega))
  have hM2 := hM.fr (h' := h2) (fun q q1 q2 => hF2 q (by omega))
  have oM2 := hM2.O
  have ld2 := fun {j : Nat} (hj : j < L) {K : Int32 → Prop} => hB2.ld hj (K := K)
  try simp (disch := first | assumption | omega | exact tb_sm0 | exact tb_sm1 _ | exact tb_sm2 _ _ | exact tb_sm3 _ _ _ | exact tb_sm4 _ _ _ _ | exact Or.inl rfl | exact Or.inr rfl | fail) only [r155_464, r155_465, ld2, nI_add, tb_vl_some, tb_vl_none, tb_wF_some]
  refine m_keep hM2 (fun h3 hM3 hF3 => ?_)
  try simp (disch := first | assumption | omega | exact tb_sm0 | exact tb_sm1 _ | exact tb_sm2 _ _ | exact tb_sm3 _ _ _ | exact tb_sm4 _ _ _ _ | exact Or.inl rfl | exact Or.inr rfl | fail) only [r155_468, tb_vl_some, tb_vl_none, tb_wF_some, eq_self, if_true, ↓reduceIte]
  have hC3 := hC2.fr (h' := h3) (fun q q1 q2 => hF3 q (by omega))
  exact hQ h3 _ _ _ _ ⟨hC3, hM3, hW, hH, Or.inr ⟨rfl, hW⟩, hT6, hTx⟩ (fun q hq => by rw [hF3 q (by omega), hF2 q (by omega)])
theorem op_13 (hI : lo_I h x s hs kn g) (hB : lo_B E h x b L xs) (hi : i + 5 ≤ L) (hd : 10 ≤ d) (hQ : ∀ h' s' hs' kn' g', lo_I h' x s' hs' kn' g' → (∀ q, q < x → h' q = h q) → tb_wp E d 155 908 [.ref b, .ref x, .ref (x + 198), .int (nI i)] [] h' nx bc bs Q) :
    tb_wp E d 155 473 [.ref b, .ref x, .ref (x + 198), .int (nI i)] [] h nx bc bs Q := by
  obtain ⟨hC, hM, hW, hH, hS, hT6, hTx⟩ := hI
  have oC := hC.1.O
  have oM := hM.O
  have hL31 : L ≤ 2560 := hB.2.2.2.2
  have ld1 := fun {j : Nat} (hj : j < L) {K : Int32 → Prop} => hB.ld hj (K := K)
  rcases hS with h0 | ⟨h1, hWg⟩
  · simp (disch := first | assumption | omega | exact tb_sm0 | exact tb_sm1 _ | exact tb_sm2 _ _ | exact tb_sm3 _ _ _ | exact tb_sm4 _ _ _ _ | exact Or.inl rfl | exact Or.inr rfl | fail) only [r155_473, r155_474, r155_477, r155_478, r155_481, r155_484, r155_485, tb_vl_some, tb_vl_none, tb_wF_some, k_restore_0 hC h0, m_restore_0 hM h0, eq_self, if_true, ↓reduceIte]
    exact hQ h _ _ _ _ ⟨hC, hM, hW, hH, Or.inl h0, hT6, hTx⟩ (fun _ _ => rfl)
  · simp (disch := first | assumption | omega | exact tb_sm0 | exact tb_sm1 _ | exact tb_sm2 _ _ | exact tb_sm3 _ _ _ | exact tb_sm4 _ _ _ _ | exact Or.inl rfl | exact Or.inr rfl | fail) only [r155_473, r155_474, ld1, nI_add, tb_vl_some, tb_vl_none, tb_wF_some]
    refine k_restore hC h1 (by have := hWg.2.1; omega) (by omega) (fun h2 hC2 hF2 => ?_)
    have hB2 := hB.fr (fun q hq => hF2 q (by omega))
    have hM2 := hM.fr (h' := h2) (fun q q1 q2 => hF2 q (by omega))
    have oM2 := hM2.O
    have ld2 := fun {j : Nat} (hj : j < L) {K : Int32 → Prop} => hB2.ld hj (K := K)
    try simp (disch := first | assumption | omega | exact tb_sm0 | exact tb_sm1 _ | exact tb_sm2 _ _ | exact tb_sm3 _ _ _ | exact tb_sm4 _ _ _ _ | exact Or.inl rfl | exact Or.inr rfl | fail) only [r155_477, r155_478, ld2, nI_add, tb_vl_some, tb_vl_none, tb_wF_some]
    refine m_restore hM2 h1 (by omega) (fun h3 hM3 hF3 => ?_)
    try simp (disch := first | assumption | omega | exact tb_sm0 | exact tb_sm1 _ | exact tb_sm2 _ _ | exact tb_sm3 _ _ _ | exact tb_sm4 _ _ _ _ | exact Or.inl rfl | exact Or.inr rfl | fail) only [r155_481, tb_vl_some, tb_vl_none, tb_wF_some, eq_self, if_true, ↓reduceIte]
    have hC3 := hC2.fr (h' := h3) (fun q q1 q2 => hF3 q (by omega))
    exact hQ h3 _ _ _ _ ⟨hC3, hM3, hWg, rec_W hH hW, Or.inr ⟨h1, hWg⟩, hT6, hTx⟩ (fun q hq => by rw [hF3 q (by omega), hF2 q (by omega)])
theorem op_14 (hI : lo_I h x s hs kn g) (hB : lo_B E h x b L xs) (hi : i + 5 ≤ L) (hd : 10 ≤ d) (hQ : ∀ h' s' hs' kn' g', lo_I h' x s' hs' kn' g' → (∀ q, q < x → h' q = h q) → tb_wp E d 155 908 [.ref b, .ref x, .ref (x + 198), .int (nI i)] [] h' nx bc bs Q) :
    tb_wp E d 155 486 [.ref b, .ref x, .ref (x + 198), .int (nI i)] [] h nx bc bs Q := by
  obtain ⟨hC, hM, hW, hH, hS, hT6, hTx⟩ := hI
  have oC := hC.1.O
  have oM := hM.O
  have hL31 : L ≤ 2560 := hB.2.2.2.2
  have ld1 := fun {j : Nat} (hj : j < L) {K : Int32 → Prop} => hB.ld hj (K := K)
  obtain ⟨po, wr, sp, as, ah, cm, od, bf, hG, hHi⟩ := hM
  have hM : tb_MF h (x + 198) s hs kn g := ⟨po, wr, sp, as, ah, cm, od, bf, hG, hHi⟩
  simp (disch := first | assumption | omega | exact tb_sm0 | exact tb_sm1 _ | exact tb_sm2 _ _ | exact tb_sm3 _ _ _ | exact tb_sm4 _ _ _ _ | exact Or.inl rfl | exact Or.inr rfl | fail) only [r155_486, r155_487, r155_488, r155_489, r155_490, r155_491, r155_492, r155_493, r155_494, r155_495, r155_496, r155_497, r155_498, r155_499, r155_500, r155_501, r155_502, ld1, nI_add, tb_vl_some, tb_vl_none, tb_wF_some]
  refine k_grains hC (by omega) ?_
  simp (disch := first | assumption | omega | exact tb_sm0 | exact tb_sm1 _ | exact tb_sm2 _ _ | exact tb_sm3 _ _ _ | exact tb_sm4 _ _ _ _ | exact Or.inl rfl | exact Or.inr rfl | fail) only [r155_505, r155_506, r155_507, r155_508, r155_509, r155_510, r155_511, r155_512, r155_513, r155_514, r155_515, r155_516, r155_517, r155_518, r155_519, r155_520, r155_521, r155_524, r155_527, r155_528, ld1, nI_add, tb_vl_some, tb_vl_none, tb_wF_some, m_grains (tb_MG.S hG) (show 3 ≤ d - 1 by omega), eq_self, if_true, ↓reduceIte]
  exact hQ h _ _ _ _ ⟨hC, hM, hW, hH, hS, hT6, hTx⟩ (fun _ _ => rfl)
theorem op_15 (hI : lo_I h x s hs kn g) (hB : lo_B E h x b L xs) (hi : i + 5 ≤ L) (hd : 10 ≤ d) (hQ : ∀ h' s' hs' kn' g', lo_I h' x s' hs' kn' g' → (∀ q, q < x → h' q = h q) → tb_wp E d 155 908 [.ref b, .ref x, .ref (x + 198), .int (nI i)] [] h' nx bc bs Q) :
    tb_wp E d 155 529 [.ref b, .ref x, .ref (x + 198), .int (nI i)] [] h nx bc bs Q := by
  obtain ⟨hC, hM, hW, hH, hS, hT6, hTx⟩ := hI
  have oC := hC.1.O
  have oM := hM.O
  have hL31 : L ≤ 2560 := hB.2.2.2.2
  have ld1 := fun {j : Nat} (hj : j < L) {K : Int32 → Prop} => hB.ld hj (K := K)
  obtain ⟨po, wr, sp, as, ah, cm, od, bf, hG, hHi⟩ := hM
  have hM : tb_MF h (x + 198) s hs kn g := ⟨po, wr, sp, as, ah, cm, od, bf, hG, hHi⟩
  simp (disch := first | assumption | omega | exact tb_sm0 | exact tb_sm1 _ | exact tb_sm2 _ _ | exact tb_sm3 _ _ _ | exact tb_sm4 _ _ _ _ | exact Or.inl rfl | exact Or.inr rfl | fail) only [r155_529, r155_530, r155_531, r155_532, r155_533, r155_534, r155_535, r155_536, r155_537, r155_538, r155_539, r155_540, ld1, nI_add, tb_vl_some, tb_vl_none, tb_wF_some]
  refine k_board hC hW.1 (by omega) ?_
  simp (disch := first | assumption | omega | exact tb_sm0 | exact tb_sm1 _ | exact tb_sm2 _ _ | exact tb_sm3 _ _ _ | exact tb_sm4 _ _ _ _ | exact Or.inl rfl | exact Or.inr rfl | fail) only [r155_543, r155_544, r155_545, r155_546, r155_547, r155_548, r155_549, r155_550, r155_551, r155_552, r155_553, r155_554, r155_557, r155_560, r155_561, ld1, nI_add, tb_vl_some, tb_vl_none, tb_wF_some, m_board (tb_MG.S hG) hW.1 (show 5 ≤ d - 1 by omega), eq_self, if_true, ↓reduceIte]
  exact hQ h _ _ _ _ ⟨hC, hM, hW, hH, hS, hT6, hTx⟩ (fun _ _ => rfl)
theorem op_16 (hI : lo_I h x s hs kn g) (hB : lo_B E h x b L xs) (hi : i + 5 ≤ L) (hd : 10 ≤ d) (hQ : ∀ h' s' hs' kn' g', lo_I h' x s' hs' kn' g' → (∀ q, q < x → h' q = h q) → tb_wp E d 155 908 [.ref b, .ref x, .ref (x + 198), .int (nI i)] [] h' nx bc bs Q) :
    tb_wp E d 155 562 [.ref b, .ref x, .ref (x + 198), .int (nI i)] [] h nx bc bs Q := by
  obtain ⟨hC, hM, hW, hH, hS, hT6, hTx⟩ := hI
  have oC := hC.1.O
  have oM := hM.O
  have hL31 : L ≤ 2560 := hB.2.2.2.2
  have ld1 := fun {j : Nat} (hj : j < L) {K : Int32 → Prop} => hB.ld hj (K := K)
  obtain ⟨po, wr, sp, as, ah, cm, od, bf, hG, hHi⟩ := hM
  have hM : tb_MF h (x + 198) s hs kn g := ⟨po, wr, sp, as, ah, cm, od, bf, hG, hHi⟩
  simp (disch := first | assumption | omega | exact tb_sm0 | exact tb_sm1 _ | exact tb_sm2 _ _ | exact tb_sm3 _ _ _ | exact tb_sm4 _ _ _ _ | exact Or.inl rfl | exact Or.inr rfl | fail) only [r155_562, r155_563, r155_564, r155_565, r155_566, r155_567, r155_568, r155_569, r155_570, r155_571, r155_572, r155_573, ld1, nI_add, tb_vl_some, tb_vl_none, tb_wF_some]
  refine k_pan hC (by omega) ?_
  simp (disch := first | assumption | omega | exact tb_sm0 | exact tb_sm1 _ | exact tb_sm2 _ _ | exact tb_sm3 _ _ _ | exact tb_sm4 _ _ _ _ | exact Or.inl rfl | exact Or.inr rfl | fail) only [r155_576, r155_577, r155_578, r155_579, r155_580, r155_581, r155_582, r155_583, r155_584, r155_585, r155_586, r155_587, r155_590, r155_593, r155_594, ld1, nI_add, tb_vl_some, tb_vl_none, tb_wF_some, m_pan (tb_MG.S hG) (show 2 ≤ d - 1 by omega), eq_self, if_true, ↓reduceIte]
  exact hQ h _ _ _ _ ⟨hC, hM, hW, hH, hS, hT6, hTx⟩ (fun _ _ => rfl)
theorem op_17 (hI : lo_I h x s hs kn g) (hB : lo_B E h x b L xs) (hi : i + 5 ≤ L) (hd : 10 ≤ d) (hQ : ∀ h' s' hs' kn' g', lo_I h' x s' hs' kn' g' → (∀ q, q < x → h' q = h q) → tb_wp E d 155 908 [.ref b, .ref x, .ref (x + 198), .int (nI i)] [] h' nx bc bs Q) :
    tb_wp E d 155 595 [.ref b, .ref x, .ref (x + 198), .int (nI i)] [] h nx bc bs Q := by
  obtain ⟨hC, hM, hW, hH, hS, hT6, hTx⟩ := hI
  have oC := hC.1.O
  have oM := hM.O
  have hL31 : L ≤ 2560 := hB.2.2.2.2
  have ld1 := fun {j : Nat} (hj : j < L) {K : Int32 → Prop} => hB.ld hj (K := K)
  obtain ⟨po, wr, sp, as, ah, cm, od, bf, hG, hHi⟩ := hM
  have hM : tb_MF h (x + 198) s hs kn g := ⟨po, wr, sp, as, ah, cm, od, bf, hG, hHi⟩
  simp (disch := first | assumption | omega | exact tb_sm0 | exact tb_sm1 _ | exact tb_sm2 _ _ | exact tb_sm3 _ _ _ | exact tb_sm4 _ _ _ _ | exact Or.inl rfl | exact Or.inr rfl | fail) only [r155_595, r155_596, r155_597, r155_598, r155_599, r155_600, r155_601, r155_602, r155_603, r155_604, r155_605, r155_606, ld1, nI_add, tb_vl_some, tb_vl_none, tb_wF_some]
  refine k_kind hC (by omega) ?_
  simp (disch := first | assumption | omega | exact tb_sm0 | exact tb_sm1 _ | exact tb_sm2 _ _ | exact tb_sm3 _ _ _ | exact tb_sm4 _ _ _ _ | exact Or.inl rfl | exact Or.inr rfl | fail) only [r155_609, r155_610, r155_611, r155_612, r155_613, r155_614, r155_615, r155_616, r155_617, r155_618, r155_619, r155_620, r155_623, r155_626, r155_627, ld1, nI_add, tb_vl_some, tb_vl_none, tb_wF_some, m_kind (tb_MG.S hG) (show 2 ≤ d - 1 by omega), eq_self, if_true, ↓reduceIte]
  exact hQ h _ _ _ _ ⟨hC, hM, hW, hH, hS, hT6, hTx⟩ (fun _ _ => rfl)
theorem op_18 (hI : lo_I h x s hs kn g) (hB : lo_B E h x b L xs) (hi : i + 5 ≤ L) (hd : 10 ≤ d) (hQ : ∀ h' s' hs' kn' g', lo_I h' x s' hs' kn' g' → (∀ q, q < x → h' q = h q) → tb_wp E d 155 908 [.ref b, .ref x, .ref (x + 198), .int (nI i)] [] h' nx bc bs Q) :
    tb_wp E d 155 628 [.ref b, .ref x, .ref (x + 198), .int (nI i)] [] h nx bc bs Q := by
  obtain ⟨hC, hM, hW, hH, hS, hT6, hTx⟩ := hI
  have oC := hC.1.O
  have oM := hM.O
  have hL31 : L ≤ 2560 := hB.2.2.2.2
  have ld1 := fun {j : Nat} (hj : j < L) {K : Int32 → Prop} => hB.ld hj (K := K)
  obtain ⟨po, wr, sp, as, ah, cm, od, bf, hG, hHi⟩ := hM
  have hM : tb_MF h (x + 198) s hs kn g := ⟨po, wr, sp, as, ah, cm, od, bf, hG, hHi⟩
  simp (disch := first | assumption | omega | exact tb_sm0 | exact tb_sm1 _ | exact tb_sm2 _ _ | exact tb_sm3 _ _ _ | exact tb_sm4 _ _ _ _ | exact Or.inl rfl | exact Or.inr rfl | fail) only [r155_628, r155_629, r155_630, r155_631, r155_632, r155_633, r155_634, r155_635, r155_636, r155_637, r155_638, r155_639, r155_640, r155_641, r155_642, r155_643, r155_644, ld1, nI_add, tb_vl_some, tb_vl_none, tb_wF_some]
  refine k_needs hC hW.1 (by omega) ?_
  simp (disch := first | assumption | omega | exact tb_sm0 | exact tb_sm1 _ | exact tb_sm2 _ _ | exact tb_sm3 _ _ _ | exact tb_sm4 _ _ _ _ | exact Or.inl rfl | exact Or.inr rfl | fail) only [r155_647, r155_648, r155_649, r155_650, r155_651, r155_652, r155_653, r155_654, r155_655, r155_656, r155_657, r155_658, r155_659, r155_660, r155_661, r155_662, r155_663, r155_666, r155_669, r155_670, ld1, nI_add, tb_vl_some, tb_vl_none, tb_wF_some, m_needs (tb_MG.S hG) hW.1 (show 3 ≤ d - 1 by omega), eq_self, if_true, ↓reduceIte]
  exact hQ h _ _ _ _ ⟨hC, hM, hW, hH, hS, hT6, hTx⟩ (fun _ _ => rfl)
theorem op_19 (hI : lo_I h x s hs kn g) (hB : lo_B E h x b L xs) (hi : i + 5 ≤ L) (hd : 10 ≤ d) (hQ : ∀ h' s' hs' kn' g', lo_I h' x s' hs' kn' g' → (∀ q, q < x → h' q = h q) → tb_wp E d 155 908 [.ref b, .ref x, .ref (x + 198), .int (nI i)] [] h' nx bc bs Q) :
    tb_wp E d 155 671 [.ref b, .ref x, .ref (x + 198), .int (nI i)] [] h nx bc bs Q := by
  obtain ⟨hC, hM, hW, hH, hS, hT6, hTx⟩ := hI
  have oC := hC.1.O
  have oM := hM.O
  have hL31 : L ≤ 2560 := hB.2.2.2.2
  have ld1 := fun {j : Nat} (hj : j < L) {K : Int32 → Prop} => hB.ld hj (K := K)
  obtain ⟨po, wr, sp, as, ah, cm, od, bf, hG, hHi⟩ := hM
  have hM : tb_MF h (x + 198) s hs kn g := ⟨po, wr, sp, as, ah, cm, od, bf, hG, hHi⟩
  simp (disch := first | assumption | omega | exact tb_sm0 | exact tb_sm1 _ | exact tb_sm2 _ _ | exact tb_sm3 _ _ _ | exact tb_sm4 _ _ _ _ | exact Or.inl rfl | exact Or.inr rfl | fail) only [r155_671, r155_672, r155_673, r155_674, r155_675, r155_676, r155_677, r155_678, r155_679, r155_680, r155_681, r155_682, r155_683, r155_684, r155_685, r155_686, r155_687, ld1, nI_add, tb_vl_some, tb_vl_none, tb_wF_some]
  refine k_reason hC hW.1 (by omega) ?_
  simp (disch := first | assumption | omega | exact tb_sm0 | exact tb_sm1 _ | exact tb_sm2 _ _ | exact tb_sm3 _ _ _ | exact tb_sm4 _ _ _ _ | exact Or.inl rfl | exact Or.inr rfl | fail) only [r155_690, r155_691, r155_692, r155_693, r155_694, r155_695, r155_696, r155_697, r155_698, r155_699, r155_700, r155_701, r155_702, r155_703, r155_704, r155_705, r155_706, r155_709, r155_712, r155_713, ld1, nI_add, tb_vl_some, tb_vl_none, tb_wF_some, m_reason (tb_MG.S hG) hW.1 (show 4 ≤ d - 1 by omega), eq_self, if_true, ↓reduceIte]
  exact hQ h _ _ _ _ ⟨hC, hM, hW, hH, hS, hT6, hTx⟩ (fun _ _ => rfl)
theorem op_20 (hI : lo_I h x s hs kn g) (hB : lo_B E h x b L xs) (hi : i + 5 ≤ L) (hd : 10 ≤ d) (hQ : ∀ h' s' hs' kn' g', lo_I h' x s' hs' kn' g' → (∀ q, q < x → h' q = h q) → tb_wp E d 155 908 [.ref b, .ref x, .ref (x + 198), .int (nI i)] [] h' nx bc bs Q) :
    tb_wp E d 155 714 [.ref b, .ref x, .ref (x + 198), .int (nI i)] [] h nx bc bs Q := by
  obtain ⟨hC, hM, hW, hH, hS, hT6, hTx⟩ := hI
  have oC := hC.1.O
  have oM := hM.O
  have hL31 : L ≤ 2560 := hB.2.2.2.2
  have ld1 := fun {j : Nat} (hj : j < L) {K : Int32 → Prop} => hB.ld hj (K := K)
  obtain ⟨po, wr, sp, as, ah, cm, od, bf, hG, hHi⟩ := hM
  have hM : tb_MF h (x + 198) s hs kn g := ⟨po, wr, sp, as, ah, cm, od, bf, hG, hHi⟩
  simp (disch := first | assumption | omega | exact tb_sm0 | exact tb_sm1 _ | exact tb_sm2 _ _ | exact tb_sm3 _ _ _ | exact tb_sm4 _ _ _ _ | exact Or.inl rfl | exact Or.inr rfl | fail) only [r155_714, r155_715, r155_716, r155_717, r155_718, r155_719, r155_720, ld1, nI_add, tb_vl_some, tb_vl_none, tb_wF_some]
  refine k_leastAngle hC hW.1 (by omega) ?_
  simp (disch := first | assumption | omega | exact tb_sm0 | exact tb_sm1 _ | exact tb_sm2 _ _ | exact tb_sm3 _ _ _ | exact tb_sm4 _ _ _ _ | exact Or.inl rfl | exact Or.inr rfl | fail) only [r155_723, r155_724, r155_725, r155_726, r155_727, r155_728, r155_729, r155_732, r155_735, r155_736, ld1, nI_add, tb_vl_some, tb_vl_none, tb_wF_some, m_leastAngle (tb_MG.S hG) hW.1 (show 3 ≤ d - 1 by omega), eq_self, if_true, ↓reduceIte]
  exact hQ h _ _ _ _ ⟨hC, hM, hW, hH, hS, hT6, hTx⟩ (fun _ _ => rfl)
theorem op_21 (hI : lo_I h x s hs kn g) (hB : lo_B E h x b L xs) (hi : i + 5 ≤ L) (hd : 10 ≤ d) (hQ : ∀ h' s' hs' kn' g', lo_I h' x s' hs' kn' g' → (∀ q, q < x → h' q = h q) → tb_wp E d 155 908 [.ref b, .ref x, .ref (x + 198), .int (nI i)] [] h' nx bc bs Q) :
    tb_wp E d 155 737 [.ref b, .ref x, .ref (x + 198), .int (nI i)] [] h nx bc bs Q := by
  obtain ⟨hC, hM, hW, hH, hS, hT6, hTx⟩ := hI
  have oC := hC.1.O
  have oM := hM.O
  have hL31 : L ≤ 2560 := hB.2.2.2.2
  have ld1 := fun {j : Nat} (hj : j < L) {K : Int32 → Prop} => hB.ld hj (K := K)
  simp (disch := first | assumption | omega | exact tb_sm0 | exact tb_sm1 _ | exact tb_sm2 _ _ | exact tb_sm3 _ _ _ | exact tb_sm4 _ _ _ _ | exact Or.inl rfl | exact Or.inr rfl | fail) only [r155_737, r155_738, r155_739, r155_740, r155_741, r155_742, r155_743, ld1, nI_add, tb_vl_some, tb_vl_none, tb_wF_some]
  refine k_restsIn hC hW.1 (by omega) (fun h2 hC2 hF2 => ?_)
  have hB2 := hB.fr (fun q hq => hF2 q (by omega))
  have hM2 := hM.fr (h' := h2) (fun q q1 q2 => hF2 q (by omega))
  have oM2 := hM2.O
  have ld2 := fun {j : Nat} (hj : j < L) {K : Int32 → Prop} => hB2.ld hj (K := K)
  try simp (disch := first | assumption | omega | exact tb_sm0 | exact tb_sm1 _ | exact tb_sm2 _ _ | exact tb_sm3 _ _ _ | exact tb_sm4 _ _ _ _ | exact Or.inl rfl | exact Or.inr rfl | fail) only [r155_746, r155_747, r155_748, r155_749, r155_750, r155_751, r155_752, ld2, nI_add, tb_vl_some, tb_vl_none, tb_wF_some]
  refine m_restsIn hM2 hW.1 (by omega) (fun h3 hM3 hF3 => ?_)
  try simp (disch := first | assumption | omega | exact tb_sm0 | exact tb_sm1 _ | exact tb_sm2 _ _ | exact tb_sm3 _ _ _ | exact tb_sm4 _ _ _ _ | exact Or.inl rfl | exact Or.inr rfl | fail) only [r155_755, tb_vl_some, tb_vl_none, tb_wF_some, eq_self, if_true, ↓reduceIte]
  have hC3 := hC2.fr (h' := h3) (fun q q1 q2 => hF3 q (by omega))
  exact hQ h3 _ _ _ _ ⟨hC3, hM3, hW, hH, hS, hT6, hTx⟩ (fun q hq => by rw [hF3 q (by omega), hF2 q (by omega)])
theorem op_22 (hI : lo_I h x s hs kn g) (hB : lo_B E h x b L xs) (hi : i + 5 ≤ L) (hd : 10 ≤ d) (hQ : ∀ h' s' hs' kn' g', lo_I h' x s' hs' kn' g' → (∀ q, q < x → h' q = h q) → tb_wp E d 155 908 [.ref b, .ref x, .ref (x + 198), .int (nI i)] [] h' nx bc bs Q) :
    tb_wp E d 155 760 [.ref b, .ref x, .ref (x + 198), .int (nI i)] [] h nx bc bs Q := by
  obtain ⟨hC, hM, hW, hH, hS, hT6, hTx⟩ := hI
  have oC := hC.1.O
  have oM := hM.O
  have hL31 : L ≤ 2560 := hB.2.2.2.2
  have ld1 := fun {j : Nat} (hj : j < L) {K : Int32 → Prop} => hB.ld hj (K := K)
  simp (disch := first | assumption | omega | exact tb_sm0 | exact tb_sm1 _ | exact tb_sm2 _ _ | exact tb_sm3 _ _ _ | exact tb_sm4 _ _ _ _ | exact Or.inl rfl | exact Or.inr rfl | fail) only [r155_760, r155_761, r155_762, r155_763, r155_764, r155_765, r155_766, r155_767, r155_768, r155_769, r155_770, r155_771, r155_772, r155_773, r155_774, r155_775, r155_776, ld1, nI_add, tb_vl_some, tb_vl_none, tb_wF_some]
  refine k_ifTilted hC hW.1 (by omega) (fun h2 hC2 hF2 => ?_)
  have hB2 := hB.fr (fun q hq => hF2 q (by omega))
  have hM2 := hM.fr (h' := h2) (fun q q1 q2 => hF2 q (by omega))
  have oM2 := hM2.O
  have ld2 := fun {j : Nat} (hj : j < L) {K : Int32 → Prop} => hB2.ld hj (K := K)
  try simp (disch := first | assumption | omega | exact tb_sm0 | exact tb_sm1 _ | exact tb_sm2 _ _ | exact tb_sm3 _ _ _ | exact tb_sm4 _ _ _ _ | exact Or.inl rfl | exact Or.inr rfl | fail) only [r155_779, r155_780, r155_781, r155_782, r155_783, r155_784, r155_785, r155_786, r155_787, r155_788, r155_789, r155_790, r155_791, r155_792, r155_793, r155_794, r155_795, ld2, nI_add, tb_vl_some, tb_vl_none, tb_wF_some]
  refine m_ifTilted hM2 hW.1 (by omega) (fun h3 hM3 hF3 => ?_)
  try simp (disch := first | assumption | omega | exact tb_sm0 | exact tb_sm1 _ | exact tb_sm2 _ _ | exact tb_sm3 _ _ _ | exact tb_sm4 _ _ _ _ | exact Or.inl rfl | exact Or.inr rfl | fail) only [r155_798, tb_vl_some, tb_vl_none, tb_wF_some, eq_self, if_true, ↓reduceIte]
  have hC3 := hC2.fr (h' := h3) (fun q q1 q2 => hF3 q (by omega))
  exact hQ h3 _ _ _ _ ⟨hC3, hM3, hW, hH, hS, hT6, hTx⟩ (fun q hq => by rw [hF3 q (by omega), hF2 q (by omega)])
theorem op_23 (hI : lo_I h x s hs kn g) (hB : lo_B E h x b L xs) (hi : i + 5 ≤ L) (hd : 10 ≤ d) (hQ : ∀ h' s' hs' kn' g', lo_I h' x s' hs' kn' g' → (∀ q, q < x → h' q = h q) → tb_wp E d 155 908 [.ref b, .ref x, .ref (x + 198), .int (nI i)] [] h' nx bc bs Q) :
    tb_wp E d 155 803 [.ref b, .ref x, .ref (x + 198), .int (nI i)] [] h nx bc bs Q := by
  obtain ⟨hC, hM, hW, hH, hS, hT6, hTx⟩ := hI
  have oC := hC.1.O
  have oM := hM.O
  have hL31 : L ≤ 2560 := hB.2.2.2.2
  have ld1 := fun {j : Nat} (hj : j < L) {K : Int32 → Prop} => hB.ld hj (K := K)
  simp (disch := first | assumption | omega | exact tb_sm0 | exact tb_sm1 _ | exact tb_sm2 _ _ | exact tb_sm3 _ _ _ | exact tb_sm4 _ _ _ _ | exact Or.inl rfl | exact Or.inr rfl | fail) only [r155_803, r155_804, r155_805, r155_806, r155_807, r155_808, r155_809, ld1, nI_add, tb_vl_some, tb_vl_none, tb_wF_some]
  refine k_clearingAngle hC hW.1 (by omega) (fun h2 hC2 hF2 => ?_)
  have hB2 := hB.fr (fun q hq => hF2 q (by omega))
  have hM2 := hM.fr (h' := h2) (fun q q1 q2 => hF2 q (by omega))
  have oM2 := hM2.O
  have ld2 := fun {j : Nat} (hj : j < L) {K : Int32 → Prop} => hB2.ld hj (K := K)
  try simp (disch := first | assumption | omega | exact tb_sm0 | exact tb_sm1 _ | exact tb_sm2 _ _ | exact tb_sm3 _ _ _ | exact tb_sm4 _ _ _ _ | exact Or.inl rfl | exact Or.inr rfl | fail) only [r155_812, r155_813, r155_814, r155_815, r155_816, r155_817, r155_818, ld2, nI_add, tb_vl_some, tb_vl_none, tb_wF_some]
  refine m_clearingAngle hM2 hW.1 (by omega) (fun h3 hM3 hF3 => ?_)
  try simp (disch := first | assumption | omega | exact tb_sm0 | exact tb_sm1 _ | exact tb_sm2 _ _ | exact tb_sm3 _ _ _ | exact tb_sm4 _ _ _ _ | exact Or.inl rfl | exact Or.inr rfl | fail) only [r155_821, tb_vl_some, tb_vl_none, tb_wF_some, eq_self, if_true, ↓reduceIte]
  have hC3 := hC2.fr (h' := h3) (fun q q1 q2 => hF3 q (by omega))
  exact hQ h3 _ _ _ _ ⟨hC3, hM3, hW, hH, hS, hT6, hTx⟩ (fun q hq => by rw [hF3 q (by omega), hF2 q (by omega)])
theorem op_24 (hI : lo_I h x s hs kn g) (hB : lo_B E h x b L xs) (hi : i + 5 ≤ L) (hd : 10 ≤ d) (hQ : ∀ h' s' hs' kn' g', lo_I h' x s' hs' kn' g' → (∀ q, q < x → h' q = h q) → tb_wp E d 155 908 [.ref b, .ref x, .ref (x + 198), .int (nI i)] [] h' nx bc bs Q) :
    tb_wp E d 155 826 [.ref b, .ref x, .ref (x + 198), .int (nI i)] [] h nx bc bs Q := by
  obtain ⟨hC, hM, hW, hH, hS, hT6, hTx⟩ := hI
  have oC := hC.1.O
  have oM := hM.O
  have hL31 : L ≤ 2560 := hB.2.2.2.2
  have ld1 := fun {j : Nat} (hj : j < L) {K : Int32 → Prop} => hB.ld hj (K := K)
  obtain ⟨po, wr, sp, as, ah, cm, od, bf, hG, hHi⟩ := hM
  have hM : tb_MF h (x + 198) s hs kn g := ⟨po, wr, sp, as, ah, cm, od, bf, hG, hHi⟩
  have key : ∀ w, w = (if xs (i + 3) = 0 then nI 0 else nI 1) → tb_wp E d 155 850 [.ref b, .ref x, .ref (x + 198), .int (nI i)] [.int w, .int (xs (i + 2)), .int (xs (i + 1)), .ref x] h nx bc bs Q := by
    intro w hw
    simp (disch := first | assumption | omega | exact tb_sm0 | exact tb_sm1 _ | exact tb_sm2 _ _ | exact tb_sm3 _ _ _ | exact tb_sm4 _ _ _ _ | exact Or.inl rfl | exact Or.inr rfl | fail) only [r155_850, tb_vl_some, tb_vl_none, tb_wF_some]
    refine k_weighs hC hW.1 (by omega) ?_
    by_cases c : xs (i + 3) = 0
    · rw [if_pos c] at hw
      subst hw
      simp (disch := first | assumption | omega | exact tb_sm0 | exact tb_sm1 _ | exact tb_sm2 _ _ | exact tb_sm3 _ _ _ | exact tb_sm4 _ _ _ _ | exact Or.inl rfl | exact Or.inr rfl | fail) only [r155_853, r155_854, r155_855, r155_856, r155_857, r155_858, r155_859, r155_860, r155_861, r155_862, r155_863, r155_864, r155_865, r155_866, r155_867, r155_868, r155_869, r155_872, r155_873, r155_876, r155_877, r155_880, ld1, nI_add, tb_vl_some, tb_vl_none, tb_wF_some, eq_true c, m_weighs (tb_MG.S hG) hW.1 (show 2 ≤ d - 1 by omega), eq_self, if_true, ↓reduceIte]
      exact hQ h _ _ _ _ ⟨hC, hM, hW, hH, hS, hT6, hTx⟩ (fun _ _ => rfl)
    · rw [if_neg c] at hw
      subst hw
      simp (disch := first | assumption | omega | exact tb_sm0 | exact tb_sm1 _ | exact tb_sm2 _ _ | exact tb_sm3 _ _ _ | exact tb_sm4 _ _ _ _ | exact Or.inl rfl | exact Or.inr rfl | fail) only [r155_853, r155_854, r155_855, r155_856, r155_857, r155_858, r155_859, r155_860, r155_861, r155_862, r155_863, r155_864, r155_865, r155_866, r155_867, r155_868, r155_869, r155_872, r155_873, r155_876, r155_877, r155_880, ld1, nI_add, tb_vl_some, tb_vl_none, tb_wF_some, c, if_false, m_weighs (tb_MG.S hG) hW.1 (show 2 ≤ d - 1 by omega), eq_self, if_true, ↓reduceIte]
      exact hQ h _ _ _ _ ⟨hC, hM, hW, hH, hS, hT6, hTx⟩ (fun _ _ => rfl)
  by_cases c : xs (i + 3) = 0
  · have k := key _ (if_pos c).symm
    simp (disch := first | assumption | omega | exact tb_sm0 | exact tb_sm1 _ | exact tb_sm2 _ _ | exact tb_sm3 _ _ _ | exact tb_sm4 _ _ _ _ | exact Or.inl rfl | exact Or.inr rfl | fail) only [r155_826, r155_827, r155_828, r155_829, r155_830, r155_831, r155_832, r155_833, r155_834, r155_835, r155_836, r155_837, r155_838, r155_839, r155_840, r155_841, r155_842, r155_845, r155_846, r155_849, ld1, nI_add, tb_vl_some, tb_vl_none, tb_wF_some, eq_true c, eq_self, if_true, ↓reduceIte]
    exact k
  · have k := key _ (if_neg c).symm
    simp (disch := first | assumption | omega | exact tb_sm0 | exact tb_sm1 _ | exact tb_sm2 _ _ | exact tb_sm3 _ _ _ | exact tb_sm4 _ _ _ _ | exact Or.inl rfl | exact Or.inr rfl | fail) only [r155_826, r155_827, r155_828, r155_829, r155_830, r155_831, r155_832, r155_833, r155_834, r155_835, r155_836, r155_837, r155_838, r155_839, r155_840, r155_841, r155_842, r155_845, r155_846, r155_849, ld1, nI_add, tb_vl_some, tb_vl_none, tb_wF_some, c, if_false, eq_self, if_true, ↓reduceIte]
    exact k
theorem op_25 (hI : lo_I h x s hs kn g) (hB : lo_B E h x b L xs) (hi : i + 5 ≤ L) (hd : 10 ≤ d) (hQ : ∀ h' s' hs' kn' g', lo_I h' x s' hs' kn' g' → (∀ q, q < x → h' q = h q) → tb_wp E d 155 908 [.ref b, .ref x, .ref (x + 198), .int (nI i)] [] h' nx bc bs Q) :
    tb_wp E d 155 885 [.ref b, .ref x, .ref (x + 198), .int (nI i)] [] h nx bc bs Q := by
  obtain ⟨hC, hM, hW, hH, hS, hT6, hTx⟩ := hI
  have oC := hC.1.O
  have oM := hM.O
  have hL31 : L ≤ 2560 := hB.2.2.2.2
  have ld1 := fun {j : Nat} (hj : j < L) {K : Int32 → Prop} => hB.ld hj (K := K)
  obtain ⟨po, wr, sp, as, ah, cm, od, bf, hG, hHi⟩ := hM
  have hM : tb_MF h (x + 198) s hs kn g := ⟨po, wr, sp, as, ah, cm, od, bf, hG, hHi⟩
  simp (disch := first | assumption | omega | exact tb_sm0 | exact tb_sm1 _ | exact tb_sm2 _ _ | exact tb_sm3 _ _ _ | exact tb_sm4 _ _ _ _ | exact Or.inl rfl | exact Or.inr rfl | fail) only [r155_885, r155_886, r155_887, r155_888, r155_889, r155_890, r155_891, ld1, nI_add, tb_vl_some, tb_vl_none, tb_wF_some]
  refine k_count hC hW.1 (by omega) ?_
  simp (disch := first | assumption | omega | exact tb_sm0 | exact tb_sm1 _ | exact tb_sm2 _ _ | exact tb_sm3 _ _ _ | exact tb_sm4 _ _ _ _ | exact Or.inl rfl | exact Or.inr rfl | fail) only [r155_894, r155_895, r155_896, r155_897, r155_898, r155_899, r155_900, r155_903, r155_906, r155_907, ld1, nI_add, tb_vl_some, tb_vl_none, tb_wF_some, m_count (kn := nI 0) (le := nI 0) hG.1 (tb_MG.S hG) hW.1 (show 5 ≤ d - 1 by omega), eq_self, if_true, ↓reduceIte]
  exact hQ h _ _ _ _ ⟨hC, hM, hW, hH, hS, hT6, hTx⟩ (fun _ _ => rfl)
end LO
