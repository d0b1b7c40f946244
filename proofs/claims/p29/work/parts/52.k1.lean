/-! THE CLASS ITSELF: the acts -/
def tb_Cx (h : tb_heap) (x : Nat) (kp sa sb : Int32) : Prop := h x = some (.inl (5, [.ref (x + 1), .ref (x + 28), .ref (x + 55), .int kp, .ref (x + 82), .ref (x + 192), .ref (x + 196), .int sa, .int sb]))
def tb_Tr (h : tb_heap) (x : Nat) : Prop := ∃ (ts mv : Nat → Nat) (i : Nat), tb_Bq h (x + 192) ts mv i
def tb_Tx (h : tb_heap) (x : Nat) (tx : Nat → Nat) (le : Nat) : Prop := ∃ (r : Bool × Nat) (v : ps_V), tb_OP h (x + 196) tx le r v ∧ v.1 < 65536
def tb_Sn (h : tb_heap) (x : Nat) (kp : Nat) (sn : Nat → Nat) : Prop := ∃ ss, tb_St h (x + 55) ss ∧ (kp = 1 → ∀ j, j < 368 → sn j = ss j)
def tb_CF (h : tb_heap) (x : Nat) (s : Nat → Nat) (hs : Nat → Nat → Nat) (kn : Nat) (g : sp_G) : Prop := tb_Cx h x (nI g.2.1) g.2.2.2.2.1 g.2.2.2.2.2 ∧ tb_St h (x + 1) s ∧ (∃ bs, tb_St h (x + 28) bs) ∧ tb_Sn h x g.2.1 g.1 ∧ tb_Hi h x hs kn ∧ tb_Tr h x ∧ tb_Tx h x g.2.2.1 g.2.2.2.1
section C10
variable {E : tb_env} {d : Nat} {h h' : tb_heap} {nx : Nat} {Q : Option Value → tb_heap → Nat → Prop} {x kn : Nat} {s s' : Nat → Nat} {hs hs' : Nat → Nat → Nat} {kn' : Nat} {g g' : sp_G}
theorem tb_Cx.f {kp sa sb : Int32} (h0 : tb_Cx h x kp sa sb) : tb_gf h x 5 0 = some (.ref (x + 1)) ∧ tb_gf h x 5 1 = some (.ref (x + 28)) ∧ tb_gf h x 5 2 = some (.ref (x + 55)) ∧ tb_gf h x 5 3 = some (.int kp) ∧ tb_gf h x 5 4 = some (.ref (x + 82)) ∧ tb_gf h x 5 5 = some (.ref (x + 192)) ∧ tb_gf h x 5 6 = some (.ref (x + 196)) ∧ tb_gf h x 5 7 = some (.int sa) ∧ tb_gf h x 5 8 = some (.int sb) := by
  unfold tb_gf
  rw [h0]
  exact ⟨rfl, rfl, rfl, rfl, rfl, rfl, rfl, rfl, rfl⟩
theorem tb_Cx.O {kp sa sb : Int32} (h0 : tb_Cx h x kp sa sb) : tb_isO h x 5 := ⟨_, h0⟩
theorem tb_Tr.fr (h0 : tb_Tr h x) (hF : ∀ q, x + 192 ≤ q → q < x + 196 → h' q = h q) : tb_Tr h' x := by
  obtain ⟨ts, mv, i, hB⟩ := h0
  exact ⟨ts, mv, i, hB.fr (fun q q1 q2 => hF q q1 (by omega))⟩
theorem tb_Tx.fr {tx : Nat → Nat} {le : Nat} (h0 : tb_Tx h x tx le) (hF : ∀ q, x + 196 ≤ q → q < x + 198 → h' q = h q) : tb_Tx h' x tx le := by
  obtain ⟨r, v, hP, hv⟩ := h0
  exact ⟨r, v, hP.fr (fun q q1 q2 => hF q q1 (by omega)), hv⟩
theorem tb_Sn.fr {kp : Nat} {sn : Nat → Nat} (h0 : tb_Sn h x kp sn) (hF : ∀ q, x + 55 ≤ q → q < x + 82 → h' q = h q) : tb_Sn h' x kp sn := by
  obtain ⟨ss, hS, he⟩ := h0
  exact ⟨ss, hS.fr (fun q q1 q2 => hF q q1 (by omega)), he⟩
theorem tb_CF.upS (hC : tb_CF h x s hs kn g) (hS : tb_St h' (x + 1) s') (hF : ∀ q, q < x + 1 ∨ x + 28 ≤ q → h' q = h q) : tb_CF h' x s' hs kn g := by
  obtain ⟨a1, a2, ⟨bs, a3⟩, a4, a5, a6, a7⟩ := hC
  exact ⟨(hF x (by omega)).trans a1, hS, ⟨bs, a3.fr (fun q q1 q2 => hF q (by omega))⟩, a4.fr (fun q q1 q2 => hF q (by omega)), a5.fr (fun q q1 q2 => hF q (by omega)), a6.fr (fun q q1 q2 => hF q (by omega)), a7.fr (fun q q1 q2 => hF q (by omega))⟩
theorem tb_CF.upB (hC : tb_CF h x s hs kn g) (hS : tb_St h' (x + 28) s') (hF : ∀ q, q < x + 28 ∨ x + 55 ≤ q → h' q = h q) : tb_CF h' x s hs kn g := by
  obtain ⟨a1, a2, ⟨bs, a3⟩, a4, a5, a6, a7⟩ := hC
  exact ⟨(hF x (by omega)).trans a1, a2.fr (fun q q1 q2 => hF q (by omega)), ⟨s', hS⟩, a4.fr (fun q q1 q2 => hF q (by omega)), a5.fr (fun q q1 q2 => hF q (by omega)), a6.fr (fun q q1 q2 => hF q (by omega)), a7.fr (fun q q1 q2 => hF q (by omega))⟩
theorem tb_CF.upH (hC : tb_CF h x s hs kn g) (hH : tb_Hi h' x hs' kn') (hF : ∀ q, q < x + 82 ∨ x + 192 ≤ q → h' q = h q) : tb_CF h' x s hs' kn' g := by
  obtain ⟨a1, a2, ⟨bs, a3⟩, a4, a5, a6, a7⟩ := hC
  exact ⟨(hF x (by omega)).trans a1, a2.fr (fun q q1 q2 => hF q (by omega)), ⟨bs, a3.fr (fun q q1 q2 => hF q (by omega))⟩, a4.fr (fun q q1 q2 => hF q (by omega)), hH, a6.fr (fun q q1 q2 => hF q (by omega)), a7.fr (fun q q1 q2 => hF q (by omega))⟩
theorem tb_CF.upT (hC : tb_CF h x s hs kn g) (hT : tb_Tr h' x) (hF : ∀ q, q < x + 192 ∨ x + 196 ≤ q → h' q = h q) : tb_CF h' x s hs kn g := by
  obtain ⟨a1, a2, ⟨bs, a3⟩, a4, a5, a6, a7⟩ := hC
  exact ⟨(hF x (by omega)).trans a1, a2.fr (fun q q1 q2 => hF q (by omega)), ⟨bs, a3.fr (fun q q1 q2 => hF q (by omega))⟩, a4.fr (fun q q1 q2 => hF q (by omega)), a5.fr (fun q q1 q2 => hF q (by omega)), hT, a7.fr (fun q q1 q2 => hF q (by omega))⟩
theorem tb_CF.upX {tx' : Nat → Nat} {le' : Nat} (hC : tb_CF h x s hs kn g) (hT : tb_Tx h' x tx' le') (hF : ∀ q, q < x + 196 ∨ x + 198 ≤ q → h' q = h q) : tb_CF h' x s hs kn (g.1, g.2.1, tx', le', g.2.2.2.2) := by
  obtain ⟨a1, a2, ⟨bs, a3⟩, a4, a5, a6, a7⟩ := hC
  exact ⟨(hF x (by omega)).trans a1, a2.fr (fun q q1 q2 => hF q (by omega)), ⟨bs, a3.fr (fun q q1 q2 => hF q (by omega))⟩, a4.fr (fun q q1 q2 => hF q (by omega)), a5.fr (fun q q1 q2 => hF q (by omega)), a6.fr (fun q q1 q2 => hF q (by omega)), hT⟩
theorem tb_CF.upC {sa sb : Int32} (hC : tb_CF h x s hs kn g) (h0 : tb_Cx h' x (nI g.2.1) sa sb) (hF : ∀ q, q ≠ x → h' q = h q) : tb_CF h' x s hs kn (g.1, g.2.1, g.2.2.1, g.2.2.2.1, sa, sb) := by
  obtain ⟨a1, a2, ⟨bs, a3⟩, a4, a5, a6, a7⟩ := hC
  exact ⟨h0, a2.fr (fun q q1 q2 => hF q (by omega)), ⟨bs, a3.fr (fun q q1 q2 => hF q (by omega))⟩, a4.fr (fun q q1 q2 => hF q (by omega)), a5.fr (fun q q1 q2 => hF q (by omega)), a6.fr (fun q q1 q2 => hF q (by omega)), a7.fr (fun q q1 q2 => hF q (by omega))⟩
theorem k_recorded {r : Int32} {b0 : Nat → Nat} (hC : tb_CF h x s hs kn g) (hB : tb_St h (x + 28) b0) (hm : sp_mb b0) (hd : 4 ≤ d) (hQ : ∀ h', tb_CF h' x s (sp_rc r hs kn b0).1 (sp_rc r hs kn b0).2 g → tb_out h h' x (x + 198) → Q (some (.int r)) h' nx) :
    tb_wp E d 65 0 [.ref x, .int r] [] h nx 0 0 Q := by
  have g0 := hC.1.f
  have hH := hC.2.2.2.2.1
  unfold sp_rc at hQ
  by_cases c : r < 0
  · rw [if_pos c] at hQ
    simp (disch := first | assumption | omega | exact tb_sm0 | exact tb_sm1 _ | exact tb_sm2 _ _ | exact tb_sm3 _ _ _ | exact tb_sm4 _ _ _ _ | exact Or.inl rfl | exact Or.inr rfl | fail) only [r65_0, r65_1, r65_4, r65_5, r65_8, r65_9, r65_12, r65_15, r65_16, c, if_true, ↓reduceIte]
    exact hQ h hC tb_out.rf
  · rw [if_neg c] at hQ
    have oH : tb_isO h (x + 82) 1 := by
      obtain ⟨o, hst, -, -, h0, -⟩ := hH
      exact ⟨_, h0⟩
    simp (disch := first | assumption | omega | exact tb_sm0 | exact tb_sm1 _ | exact tb_sm2 _ _ | exact tb_sm3 _ _ _ | exact tb_sm4 _ _ _ _ | exact Or.inl rfl | exact Or.inr rfl | fail) only [r65_0, r65_1, r65_4, r65_5, r65_8, r65_9, r65_12, r65_15, r65_16, c, g0, tb_vl_some, tb_vl_none, tb_wF_some, if_false, ↓reduceIte]
    refine h_record hH hB hm (by omega) (fun h2 hH2 hF2 => ?_)
    try simp (disch := first | assumption | omega | exact tb_sm0 | exact tb_sm1 _ | exact tb_sm2 _ _ | exact tb_sm3 _ _ _ | exact tb_sm4 _ _ _ _ | exact Or.inl rfl | exact Or.inr rfl | fail) only [r65_0, r65_1, r65_4, r65_5, r65_8, r65_9, r65_12, r65_15, r65_16, tb_vl_some, tb_vl_none, tb_wF_some]
    exact hQ h2 (hC.upH hH2 hF2) (fun q hq => hF2 q (by omega))
def tb_SX (E : tb_env) (h : tb_heap) (x : Nat) : Prop := tb_SL E h ∧ ∀ k, k < 4 → E.1 k < x
theorem tb_SX.fr (hL : tb_SX E h x) (hF : ∀ q, q < x → h' q = h q) : tb_SX E h' x := ⟨⟨hL.1.1, fun k hk => by rw [hF _ (hL.2 k hk)]; exact hL.1.2 k hk⟩, hL.2⟩
theorem k_tilt {y z : Int32} (hC : tb_CF h x s hs kn g) (hW : sp_W s) (hd : 5 ≤ d) (hQ : ∀ h', tb_CF h' x (ac_tilt s y z).2 (sp_rc (ac_tilt s y z).1 hs kn s).1 (sp_rc (ac_tilt s y z).1 hs kn s).2 g → tb_out h h' x (x + 198) → Q (some (.int (ac_tilt s y z).1)) h' nx) :
    tb_wp E d 44 0 [.ref x, .int y, .int z] [] h nx 0 0 Q := by
  have g0 := hC.1.f
  obtain ⟨bs, hb⟩ := hC.2.2.1
  have oB := hb.1.O
  simp (disch := first | assumption | omega | exact tb_sm0 | exact tb_sm1 _ | exact tb_sm2 _ _ | exact tb_sm3 _ _ _ | exact tb_sm4 _ _ _ _ | exact Or.inl rfl | exact Or.inr rfl | fail) only [r44_0, r44_1, r44_4, r44_5, r44_8, r44_12, r44_13, r44_16, r44_17, r44_18, r44_21, r44_24, g0, tb_vl_some, tb_vl_none, tb_wF_some]
  refine s_copyFrom hW.1.2.2.2.2 hC.2.1 hb (by omega) (by omega) (fun h2 hS2 hF2 => ?_)
  have hC2 := hC.upB hS2 hF2
  have g2 := hC2.1.f
  have oN := hC2.2.1.1.O
  simp (disch := first | assumption | omega | exact tb_sm0 | exact tb_sm1 _ | exact tb_sm2 _ _ | exact tb_sm3 _ _ _ | exact tb_sm4 _ _ _ _ | exact Or.inl rfl | exact Or.inr rfl | fail) only [r44_0, r44_1, r44_4, r44_5, r44_8, r44_11, r44_12, r44_13, r44_16, r44_17, r44_18, r44_21, r44_24, g2, tb_vl_some, tb_vl_none, tb_wF_some]
  refine s_tilt hC2.2.1 hW.1 (by omega) (fun h3 hS3 hF3 => ?_)
  have hC3 := hC2.upS hS3 (fun q hq => hF3 q (by omega))
  have hB3 := hS2.fr (h' := h3) (fun q q1 q2 => hF3 q (by omega))
  have oX := hC3.1.O
  simp (disch := first | assumption | omega | exact tb_sm0 | exact tb_sm1 _ | exact tb_sm2 _ _ | exact tb_sm3 _ _ _ | exact tb_sm4 _ _ _ _ | exact Or.inl rfl | exact Or.inr rfl | fail) only [r44_0, r44_1, r44_4, r44_5, r44_8, r44_11, r44_12, r44_13, r44_16, r44_17, r44_18, r44_21, r44_24, tb_vl_some, tb_vl_none, tb_wF_some]
  refine k_recorded hC3 hB3 hW.1.2.2.2.2 (by omega) (fun h4 hC4 hF4 => ?_)
  try simp (disch := first | assumption | omega | exact tb_sm0 | exact tb_sm1 _ | exact tb_sm2 _ _ | exact tb_sm3 _ _ _ | exact tb_sm4 _ _ _ _ | exact Or.inl rfl | exact Or.inr rfl | fail) only [r44_0, r44_1, r44_4, r44_5, r44_8, r44_11, r44_12, r44_13, r44_16, r44_17, r44_18, r44_21, r44_24, tb_vl_some, tb_vl_none, tb_wF_some]
  exact hQ h4 hC4 (fun q hq => by rw [hF4 q hq, hF3 q (by omega), hF2 q (by omega)])
theorem k_pour {y z u w : Int32} (hC : tb_CF h x s hs kn g) (hW : sp_W s) (hd : 5 ≤ d) (hQ : ∀ h', tb_CF h' x (ac_pour s y z u w).2 (sp_rc (ac_pour s y z u w).1 hs kn s).1 (sp_rc (ac_pour s y z u w).1 hs kn s).2 g → tb_out h h' x (x + 198) → Q (some (.int (ac_pour s y z u w).1)) h' nx) :
    tb_wp E d 45 0 [.ref x, .int y, .int z, .int u, .int w] [] h nx 0 0 Q := by
  have g0 := hC.1.f
  obtain ⟨bs, hb⟩ := hC.2.2.1
  have oB := hb.1.O
  simp (disch := first | assumption | omega | exact tb_sm0 | exact tb_sm1 _ | exact tb_sm2 _ _ | exact tb_sm3 _ _ _ | exact tb_sm4 _ _ _ _ | exact Or.inl rfl | exact Or.inr rfl | fail) only [r45_0, r45_1, r45_4, r45_5, r45_8, r45_12, r45_13, r45_16, r45_17, r45_18, r45_19, r45_21, r45_24, r45_27, g0, tb_vl_some, tb_vl_none, tb_wF_some]
  refine s_copyFrom hW.1.2.2.2.2 hC.2.1 hb (by omega) (by omega) (fun h2 hS2 hF2 => ?_)
  have hC2 := hC.upB hS2 hF2
  have g2 := hC2.1.f
  have oN := hC2.2.1.1.O
  simp (disch := first | assumption | omega | exact tb_sm0 | exact tb_sm1 _ | exact tb_sm2 _ _ | exact tb_sm3 _ _ _ | exact tb_sm4 _ _ _ _ | exact Or.inl rfl | exact Or.inr rfl | fail) only [r45_0, r45_1, r45_4, r45_5, r45_8, r45_11, r45_12, r45_13, r45_16, r45_17, r45_18, r45_19, r45_21, r45_24, r45_27, g2, tb_vl_some, tb_vl_none, tb_wF_some]
  refine s_pour hC2.2.1 hW.1 (by omega) (fun h3 hS3 hF3 => ?_)
  have hC3 := hC2.upS hS3 (fun q hq => hF3 q (by omega))
  have hB3 := hS2.fr (h' := h3) (fun q q1 q2 => hF3 q (by omega))
  have oX := hC3.1.O
  simp (disch := first | assumption | omega | exact tb_sm0 | exact tb_sm1 _ | exact tb_sm2 _ _ | exact tb_sm3 _ _ _ | exact tb_sm4 _ _ _ _ | exact Or.inl rfl | exact Or.inr rfl | fail) only [r45_0, r45_1, r45_4, r45_5, r45_8, r45_11, r45_12, r45_13, r45_16, r45_17, r45_18, r45_19, r45_21, r45_24, r45_27, tb_vl_some, tb_vl_none, tb_wF_some]
  refine k_recorded hC3 hB3 hW.1.2.2.2.2 (by omega) (fun h4 hC4 hF4 => ?_)
  try simp (disch := first | assumption | omega | exact tb_sm0 | exact tb_sm1 _ | exact tb_sm2 _ _ | exact tb_sm3 _ _ _ | exact tb_sm4 _ _ _ _ | exact Or.inl rfl | exact Or.inr rfl | fail) only [r45_0, r45_1, r45_4, r45_5, r45_8, r45_11, r45_12, r45_13, r45_16, r45_17, r45_18, r45_19, r45_21, r45_24, r45_27, tb_vl_some, tb_vl_none, tb_wF_some]
  exact hQ h4 hC4 (fun q hq => by rw [hF4 q hq, hF3 q (by omega), hF2 q (by omega)])
theorem k_jolt {y : Int32} (hC : tb_CF h x s hs kn g) (hW : sp_W s) (hd : 5 ≤ d) (hQ : ∀ h', tb_CF h' x (ac_jolt s y).2 (sp_rc (ac_jolt s y).1 hs kn s).1 (sp_rc (ac_jolt s y).1 hs kn s).2 g → tb_out h h' x (x + 198) → Q (some (.int (ac_jolt s y).1)) h' nx) :
    tb_wp E d 46 0 [.ref x, .int y] [] h nx 0 0 Q := by
  have g0 := hC.1.f
  obtain ⟨bs, hb⟩ := hC.2.2.1
  have oB := hb.1.O
  simp (disch := first | assumption | omega | exact tb_sm0 | exact tb_sm1 _ | exact tb_sm2 _ _ | exact tb_sm3 _ _ _ | exact tb_sm4 _ _ _ _ | exact Or.inl rfl | exact Or.inr rfl | fail) only [r46_0, r46_1, r46_4, r46_5, r46_8, r46_12, r46_13, r46_16, r46_17, r46_20, r46_23, g0, tb_vl_some, tb_vl_none, tb_wF_some]
  refine s_copyFrom hW.1.2.2.2.2 hC.2.1 hb (by omega) (by omega) (fun h2 hS2 hF2 => ?_)
  have hC2 := hC.upB hS2 hF2
  have g2 := hC2.1.f
  have oN := hC2.2.1.1.O
  simp (disch := first | assumption | omega | exact tb_sm0 | exact tb_sm1 _ | exact tb_sm2 _ _ | exact tb_sm3 _ _ _ | exact tb_sm4 _ _ _ _ | exact Or.inl rfl | exact Or.inr rfl | fail) only [r46_0, r46_1, r46_4, r46_5, r46_8, r46_11, r46_12, r46_13, r46_16, r46_17, r46_20, r46_23, g2, tb_vl_some, tb_vl_none, tb_wF_some]
  refine s_jolt hC2.2.1 hW.1 (by omega) (fun h3 hS3 hF3 => ?_)
  have hC3 := hC2.upS hS3 (fun q hq => hF3 q (by omega))
  have hB3 := hS2.fr (h' := h3) (fun q q1 q2 => hF3 q (by omega))
  have oX := hC3.1.O
  simp (disch := first | assumption | omega | exact tb_sm0 | exact tb_sm1 _ | exact tb_sm2 _ _ | exact tb_sm3 _ _ _ | exact tb_sm4 _ _ _ _ | exact Or.inl rfl | exact Or.inr rfl | fail) only [r46_0, r46_1, r46_4, r46_5, r46_8, r46_11, r46_12, r46_13, r46_16, r46_17, r46_20, r46_23, tb_vl_some, tb_vl_none, tb_wF_some]
  refine k_recorded hC3 hB3 hW.1.2.2.2.2 (by omega) (fun h4 hC4 hF4 => ?_)
  try simp (disch := first | assumption | omega | exact tb_sm0 | exact tb_sm1 _ | exact tb_sm2 _ _ | exact tb_sm3 _ _ _ | exact tb_sm4 _ _ _ _ | exact Or.inl rfl | exact Or.inr rfl | fail) only [r46_0, r46_1, r46_4, r46_5, r46_8, r46_11, r46_12, r46_13, r46_16, r46_17, r46_20, r46_23, tb_vl_some, tb_vl_none, tb_wF_some]
  exact hQ h4 hC4 (fun q hq => by rw [hF4 q hq, hF3 q (by omega), hF2 q (by omega)])
theorem k_emptyPan {y : Int32} (hC : tb_CF h x s hs kn g) (hW : sp_W s) (hd : 5 ≤ d) (hQ : ∀ h', tb_CF h' x (ac_empty s y).2 (sp_rc (ac_empty s y).1 hs kn s).1 (sp_rc (ac_empty s y).1 hs kn s).2 g → tb_out h h' x (x + 198) → Q (some (.int (ac_empty s y).1)) h' nx) :
    tb_wp E d 47 0 [.ref x, .int y] [] h nx 0 0 Q := by
  have g0 := hC.1.f
  obtain ⟨bs, hb⟩ := hC.2.2.1
  have oB := hb.1.O
  simp (disch := first | assumption | omega | exact tb_sm0 | exact tb_sm1 _ | exact tb_sm2 _ _ | exact tb_sm3 _ _ _ | exact tb_sm4 _ _ _ _ | exact Or.inl rfl | exact Or.inr rfl | fail) only [r47_0, r47_1, r47_4, r47_5, r47_8, r47_12, r47_13, r47_16, r47_17, r47_20, r47_23, g0, tb_vl_some, tb_vl_none, tb_wF_some]
  refine s_copyFrom hW.1.2.2.2.2 hC.2.1 hb (by omega) (by omega) (fun h2 hS2 hF2 => ?_)
  have hC2 := hC.upB hS2 hF2
  have g2 := hC2.1.f
  have oN := hC2.2.1.1.O
  simp (disch := first | assumption | omega | exact tb_sm0 | exact tb_sm1 _ | exact tb_sm2 _ _ | exact tb_sm3 _ _ _ | exact tb_sm4 _ _ _ _ | exact Or.inl rfl | exact Or.inr rfl | fail) only [r47_0, r47_1, r47_4, r47_5, r47_8, r47_11, r47_12, r47_13, r47_16, r47_17, r47_20, r47_23, g2, tb_vl_some, tb_vl_none, tb_wF_some]
  refine s_empty hC2.2.1 hW.2 (by omega) (fun h3 hS3 hF3 => ?_)
  have hC3 := hC2.upS hS3 (fun q hq => hF3 q (by omega))
  have hB3 := hS2.fr (h' := h3) (fun q q1 q2 => hF3 q (by omega))
  have oX := hC3.1.O
  simp (disch := first | assumption | omega | exact tb_sm0 | exact tb_sm1 _ | exact tb_sm2 _ _ | exact tb_sm3 _ _ _ | exact tb_sm4 _ _ _ _ | exact Or.inl rfl | exact Or.inr rfl | fail) only [r47_0, r47_1, r47_4, r47_5, r47_8, r47_11, r47_12, r47_13, r47_16, r47_17, r47_20, r47_23, tb_vl_some, tb_vl_none, tb_wF_some]
  refine k_recorded hC3 hB3 hW.1.2.2.2.2 (by omega) (fun h4 hC4 hF4 => ?_)
  try simp (disch := first | assumption | omega | exact tb_sm0 | exact tb_sm1 _ | exact tb_sm2 _ _ | exact tb_sm3 _ _ _ | exact tb_sm4 _ _ _ _ | exact Or.inl rfl | exact Or.inr rfl | fail) only [r47_0, r47_1, r47_4, r47_5, r47_8, r47_11, r47_12, r47_13, r47_16, r47_17, r47_20, r47_23, tb_vl_some, tb_vl_none, tb_wF_some]
  exact hQ h4 hC4 (fun q hq => by rw [hF4 q hq, hF3 q (by omega), hF2 q (by omega)])
theorem k_setGrip {y z : Int32} (hC : tb_CF h x s hs kn g) (hW : sp_W s) (hd : 5 ≤ d) (hQ : ∀ h', tb_CF h' x (ac_grip s y z).2 (sp_rc (ac_grip s y z).1 hs kn s).1 (sp_rc (ac_grip s y z).1 hs kn s).2 g → tb_out h h' x (x + 198) → Q (some (.int (ac_grip s y z).1)) h' nx) :
    tb_wp E d 48 0 [.ref x, .int y, .int z] [] h nx 0 0 Q := by
  have g0 := hC.1.f
  obtain ⟨bs, hb⟩ := hC.2.2.1
  have oB := hb.1.O
  simp (disch := first | assumption | omega | exact tb_sm0 | exact tb_sm1 _ | exact tb_sm2 _ _ | exact tb_sm3 _ _ _ | exact tb_sm4 _ _ _ _ | exact Or.inl rfl | exact Or.inr rfl | fail) only [r48_0, r48_1, r48_4, r48_5, r48_8, r48_12, r48_13, r48_16, r48_17, r48_18, r48_21, r48_24, g0, tb_vl_some, tb_vl_none, tb_wF_some]
  refine s_copyFrom hW.1.2.2.2.2 hC.2.1 hb (by omega) (by omega) (fun h2 hS2 hF2 => ?_)
  have hC2 := hC.upB hS2 hF2
  have g2 := hC2.1.f
  have oN := hC2.2.1.1.O
  simp (disch := first | assumption | omega | exact tb_sm0 | exact tb_sm1 _ | exact tb_sm2 _ _ | exact tb_sm3 _ _ _ | exact tb_sm4 _ _ _ _ | exact Or.inl rfl | exact Or.inr rfl | fail) only [r48_0, r48_1, r48_4, r48_5, r48_8, r48_11, r48_12, r48_13, r48_16, r48_17, r48_18, r48_21, r48_24, g2, tb_vl_some, tb_vl_none, tb_wF_some]
  refine s_grip hC2.2.1 hW.1 (by omega) (fun h3 hS3 hF3 => ?_)
  have hC3 := hC2.upS hS3 (fun q hq => hF3 q (by omega))
  have hB3 := hS2.fr (h' := h3) (fun q q1 q2 => hF3 q (by omega))
  have oX := hC3.1.O
  simp (disch := first | assumption | omega | exact tb_sm0 | exact tb_sm1 _ | exact tb_sm2 _ _ | exact tb_sm3 _ _ _ | exact tb_sm4 _ _ _ _ | exact Or.inl rfl | exact Or.inr rfl | fail) only [r48_0, r48_1, r48_4, r48_5, r48_8, r48_11, r48_12, r48_13, r48_16, r48_17, r48_18, r48_21, r48_24, tb_vl_some, tb_vl_none, tb_wF_some]
  refine k_recorded hC3 hB3 hW.1.2.2.2.2 (by omega) (fun h4 hC4 hF4 => ?_)
  try simp (disch := first | assumption | omega | exact tb_sm0 | exact tb_sm1 _ | exact tb_sm2 _ _ | exact tb_sm3 _ _ _ | exact tb_sm4 _ _ _ _ | exact Or.inl rfl | exact Or.inr rfl | fail) only [r48_0, r48_1, r48_4, r48_5, r48_8, r48_11, r48_12, r48_13, r48_16, r48_17, r48_18, r48_21, r48_24, tb_vl_some, tb_vl_none, tb_wF_some]
  exact hQ h4 hC4 (fun q hq => by rw [hF4 q hq, hF3 q (by omega), hF2 q (by omega)])
theorem k_set {y z : Int32} (hC : tb_CF h x s hs kn g) (hW : sp_W s) (hL : tb_SX E h x) (hd : 5 ≤ d) (hQ : ∀ h', tb_CF h' x (ac_set s y z).2 (sp_rc (ac_set s y z).1 hs kn s).1 (sp_rc (ac_set s y z).1 hs kn s).2 g → tb_out h h' x (x + 198) → Q (some (.int (ac_set s y z).1)) h' nx) :
    tb_wp E d 49 0 [.ref x, .int y, .int z] [] h nx 0 0 Q := by
  have g0 := hC.1.f
  obtain ⟨bs, hb⟩ := hC.2.2.1
  have oB := hb.1.O
  simp (disch := first | assumption | omega | exact tb_sm0 | exact tb_sm1 _ | exact tb_sm2 _ _ | exact tb_sm3 _ _ _ | exact tb_sm4 _ _ _ _ | exact Or.inl rfl | exact Or.inr rfl | fail) only [r49_0, r49_1, r49_4, r49_5, r49_8, r49_12, r49_13, r49_16, r49_17, r49_18, r49_21, r49_24, g0, tb_vl_some, tb_vl_none, tb_wF_some]
  refine s_copyFrom hW.1.2.2.2.2 hC.2.1 hb (by omega) (by omega) (fun h2 hS2 hF2 => ?_)
  have hC2 := hC.upB hS2 hF2
  have g2 := hC2.1.f
  have oN := hC2.2.1.1.O
  have hL2 := hL.fr (fun q hq => hF2 q (by omega))
  simp (disch := first | assumption | omega | exact tb_sm0 | exact tb_sm1 _ | exact tb_sm2 _ _ | exact tb_sm3 _ _ _ | exact tb_sm4 _ _ _ _ | exact Or.inl rfl | exact Or.inr rfl | fail) only [r49_0, r49_1, r49_4, r49_5, r49_8, r49_11, r49_12, r49_13, r49_16, r49_17, r49_18, r49_21, r49_24, g2, tb_vl_some, tb_vl_none, tb_wF_some]
  refine s_set hC2.2.1 hW.1 hL2.1 (by omega) (fun h3 hS3 hF3 => ?_)
  have hC3 := hC2.upS hS3 (fun q hq => hF3 q (by omega))
  have hB3 := hS2.fr (h' := h3) (fun q q1 q2 => hF3 q (by omega))
  have oX := hC3.1.O
  simp (disch := first | assumption | omega | exact tb_sm0 | exact tb_sm1 _ | exact tb_sm2 _ _ | exact tb_sm3 _ _ _ | exact tb_sm4 _ _ _ _ | exact Or.inl rfl | exact Or.inr rfl | fail) only [r49_0, r49_1, r49_4, r49_5, r49_8, r49_11, r49_12, r49_13, r49_16, r49_17, r49_18, r49_21, r49_24, tb_vl_some, tb_vl_none, tb_wF_some]
  refine k_recorded hC3 hB3 hW.1.2.2.2.2 (by omega) (fun h4 hC4 hF4 => ?_)
  try simp (disch := first | assumption | omega | exact tb_sm0 | exact tb_sm1 _ | exact tb_sm2 _ _ | exact tb_sm3 _ _ _ | exact tb_sm4 _ _ _ _ | exact Or.inl rfl | exact Or.inr rfl | fail) only [r49_0, r49_1, r49_4, r49_5, r49_8, r49_11, r49_12, r49_13, r49_16, r49_17, r49_18, r49_21, r49_24, tb_vl_some, tb_vl_none, tb_wF_some]
  exact hQ h4 hC4 (fun q hq => by rw [hF4 q hq, hF3 q (by omega), hF2 q (by omega)])
theorem k_pass {y : Int32} (hC : tb_CF h x s hs kn g) (hW : sp_W s) (hd : 5 ≤ d) (hQ : ∀ h', tb_CF h' x (ac_pass s y).2 (sp_rc (ac_pass s y).1 hs kn s).1 (sp_rc (ac_pass s y).1 hs kn s).2 g → tb_out h h' x (x + 198) → Q (some (.int (ac_pass s y).1)) h' nx) :
    tb_wp E d 50 0 [.ref x, .int y] [] h nx 0 0 Q := by
  have g0 := hC.1.f
  obtain ⟨bs, hb⟩ := hC.2.2.1
  have oB := hb.1.O
  simp (disch := first | assumption | omega | exact tb_sm0 | exact tb_sm1 _ | exact tb_sm2 _ _ | exact tb_sm3 _ _ _ | exact tb_sm4 _ _ _ _ | exact Or.inl rfl | exact Or.inr rfl | fail) only [r50_0, r50_1, r50_4, r50_5, r50_8, r50_12, r50_13, r50_16, r50_17, r50_20, r50_23, g0, tb_vl_some, tb_vl_none, tb_wF_some]
  refine s_copyFrom hW.1.2.2.2.2 hC.2.1 hb (by omega) (by omega) (fun h2 hS2 hF2 => ?_)
  have hC2 := hC.upB hS2 hF2
  have g2 := hC2.1.f
  have oN := hC2.2.1.1.O
  simp (disch := first | assumption | omega | exact tb_sm0 | exact tb_sm1 _ | exact tb_sm2 _ _ | exact tb_sm3 _ _ _ | exact tb_sm4 _ _ _ _ | exact Or.inl rfl | exact Or.inr rfl | fail) only [r50_0, r50_1, r50_4, r50_5, r50_8, r50_11, r50_12, r50_13, r50_16, r50_17, r50_20, r50_23, g2, tb_vl_some, tb_vl_none, tb_wF_some]
  refine s_pass hC2.2.1 hW (by omega) (fun h3 hS3 hF3 => ?_)
  have hC3 := hC2.upS hS3 (fun q hq => hF3 q (by omega))
  have hB3 := hS2.fr (h' := h3) (fun q q1 q2 => hF3 q (by omega))
  have oX := hC3.1.O
  simp (disch := first | assumption | omega | exact tb_sm0 | exact tb_sm1 _ | exact tb_sm2 _ _ | exact tb_sm3 _ _ _ | exact tb_sm4 _ _ _ _ | exact Or.inl rfl | exact Or.inr rfl | fail) only [r50_0, r50_1, r50_4, r50_5, r50_8, r50_11, r50_12, r50_13, r50_16, r50_17, r50_20, r50_23, tb_vl_some, tb_vl_none, tb_wF_some]
  refine k_recorded hC3 hB3 hW.1.2.2.2.2 (by omega) (fun h4 hC4 hF4 => ?_)
  try simp (disch := first | assumption | omega | exact tb_sm0 | exact tb_sm1 _ | exact tb_sm2 _ _ | exact tb_sm3 _ _ _ | exact tb_sm4 _ _ _ _ | exact Or.inl rfl | exact Or.inr rfl | fail) only [r50_0, r50_1, r50_4, r50_5, r50_8, r50_11, r50_12, r50_13, r50_16, r50_17, r50_20, r50_23, tb_vl_some, tb_vl_none, tb_wF_some]
  exact hQ h4 hC4 (fun q hq => by rw [hF4 q hq, hF3 q (by omega), hF2 q (by omega)])
end C10
