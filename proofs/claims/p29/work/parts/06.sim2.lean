/-! ONE INSTRUCTION OF THE MINI MACHINE, ON THE REAL ONE: all of them -/
section TB2
variable {p : Program} {l : Launch} {e : Env} {R : Room} {s : State} {m : MethodId} {args : Array Value} {below : List Frame} {meth : Method} {c : Code} {Q : State → Prop} {D : va_G} {dA : Nat → ClassId} {E : tb_env} {d mm : Nat}
theorem tb_sl_lt : ∀ q ∈ tb_slL, q.2.2 < 4 := by decide +kernel
theorem tb_default : ∀ k, k < 6 → ∀ j, j < tb_nF k → (tb_df k)[j]? = some (defaultValue (tb_T k j)) := by
  intro k _ j hj
  simp [tb_df, hj]
set_option maxHeartbeats 4000000 in
set_option maxRecDepth 100000 in
theorem tb_sim1 (C0 : tb_Ctx D dA E p R s m args meth c d mm) {i : Instr} {n pc : Nat} {ls st : List Value} {h : tb_heap} {nx bc bs : Nat} {z : tb_cfg} (hdg : decode (tb_by mm) pc = .ok (i, n)) (hn : n = tb_len i n) (hs : tb_stp1 E d mm i n pc ls st h nx bc bs = some z) (k : tb_W1 D dA E p l e R s m args below meth c Q mm z) : tb_W1 D dA E p l e R s m args below meth c Q mm (pc, ls, st, h, nx, bc, bs) := by
  intro lsR H locs cells slots hL hI h1 h2
  dsimp only at hL hI h1 h2 ⊢
  obtain ⟨hx, hb, hml, hown, hts, hlk0, hin, hE, hR1, hR2⟩ := id C0
  have hsz := hL.size
  have hlen := hL.1
  cases i
  case iconst z0 =>
    replace hn : n = 1 := hn
    subst hn
    simp only [tb_stp1] at hs
    cases hs
    exact lv_iconst hx hb hdg rfl (k lsR H locs cells slots hL hI h1 h2)
  case bipush z0 =>
    replace hn : n = 2 := hn
    subst hn
    simp only [tb_stp1] at hs
    cases hs
    exact lv_bipush hx hb hdg rfl (k lsR H locs cells slots hL hI h1 h2)
  case sipush z0 =>
    replace hn : n = 3 := hn
    subst hn
    simp only [tb_stp1] at hs
    cases hs
    exact lv_sipush hx hb hdg rfl (k lsR H locs cells slots hL hI h1 h2)
  case ldc ix =>
    replace hn : n = 2 := hn
    subst hn
    simp only [tb_stp1] at hs
    obtain ⟨v, hv, hs⟩ := Option.bind_eq_some_iff.mp hs
    cases hs
    have hw := hts _ (tb_bg (tb_k7 _ (tb_fd hv)) rfl)
    exact lv_ldc hx hb hown hw hdg (k lsR H locs cells slots hL hI h1 h2)
  case iload i0 =>
    replace hn : n = 2 := hn
    subst hn
    simp only [tb_stp1] at hs
    split at hs
    · rename_i x hg
      cases hs
      exact lv_iload hx hb hdg (hL.get hg rfl) (k lsR H locs cells slots hL hI h1 h2)
    · cases hs
  case iload_n i0 =>
    replace hn : n = 1 := hn
    subst hn
    simp only [tb_stp1] at hs
    split at hs
    · rename_i x hg
      cases hs
      exact lv_iload_n hx hb hdg rfl (hL.get hg rfl) (k lsR H locs cells slots hL hI h1 h2)
    · cases hs
  case aload i0 =>
    replace hn : n = 2 := hn
    subst hn
    simp only [tb_stp1] at hs
    split at hs
    · rename_i x hg
      cases hs
      exact lv_aload hx hb hdg (hL.get hg rfl) (k lsR H locs cells slots hL hI h1 h2)
    · cases hs
  case aload_n i0 =>
    replace hn : n = 1 := hn
    subst hn
    simp only [tb_stp1] at hs
    split at hs
    · rename_i x hg
      cases hs
      exact lv_aload_n hx hb hdg rfl (hL.get hg rfl) (k lsR H locs cells slots hL hI h1 h2)
    · cases hs
  case istore i0 =>
    replace hn : n = 2 := hn
    subst hn
    simp only [tb_stp1] at hs
    split at hs
    · rename_i x r
      split at hs
      · rename_i hk
        cases hs
        obtain ⟨lv, g1, -, g3⟩ := hL.put
        refine lv_istore hx hb hdg g1 (by omega) rfl (fun ls' hl' => ?_)
        exact k ls' H locs cells slots (g3 _ _ (by omega) rfl ls' hl') hI h1 h2
      · cases hs
    · cases hs
  case istore_n i0 =>
    replace hn : n = 1 := hn
    subst hn
    simp only [tb_stp1] at hs
    split at hs
    · rename_i x r
      split at hs
      · rename_i hk
        cases hs
        obtain ⟨lv, g1, -, g3⟩ := hL.put
        refine lv_istore_n hx hb hdg rfl g1 (by omega) rfl (fun ls' hl' => ?_)
        exact k ls' H locs cells slots (g3 _ _ (by omega) rfl ls' hl') hI h1 h2
      · cases hs
    · cases hs
  case astore i0 =>
    replace hn : n = 2 := hn
    subst hn
    simp only [tb_stp1] at hs
    split at hs
    · rename_i x r
      split at hs
      · rename_i hk
        cases hs
        obtain ⟨lv, g1, -, g3⟩ := hL.put
        refine lv_astore hx hb hdg g1 (by omega) rfl (fun ls' hl' => ?_)
        exact k ls' H locs cells slots (g3 _ _ (by omega) rfl ls' hl') hI h1 h2
      · cases hs
    · cases hs
  case astore_n i0 =>
    replace hn : n = 1 := hn
    subst hn
    simp only [tb_stp1] at hs
    split at hs
    · rename_i x r
      split at hs
      · rename_i hk
        cases hs
        obtain ⟨lv, g1, -, g3⟩ := hL.put
        refine lv_astore_n hx hb hdg rfl g1 (by omega) rfl (fun ls' hl' => ?_)
        exact k ls' H locs cells slots (g3 _ _ (by omega) rfl ls' hl') hI h1 h2
      · cases hs
    · cases hs
  case iinc i0 z0 =>
    replace hn : n = 3 := hn
    subst hn
    simp only [tb_stp1] at hs
    split at hs
    · rename_i x hg
      cases hs
      obtain ⟨lv, g1, g2, g3⟩ := hL.put
      obtain ⟨j, hj⟩ := g2 _ _ hg rfl
      have hlt := (List.getElem?_eq_some_iff.mp hg).1
      refine lv_iinc hx hb hdg g1 hj rfl (by omega) rfl (fun ls' hl' => ?_)
      exact k ls' H locs cells slots (g3 _ _ (by omega) rfl ls' hl') hI h1 h2
    · cases hs
  case dup =>
    replace hn : n = 1 := hn
    subst hn
    simp only [tb_stp1] at hs
    split at hs
    · cases hs
      exact lv_dup hx hb hdg rfl (k lsR H locs cells slots hL hI h1 h2)
    · cases hs
      exact lv_dup hx hb hdg rfl (k lsR H locs cells slots hL hI h1 h2)
    · cases hs
  case dup2 =>
    replace hn : n = 1 := hn
    subst hn
    simp only [tb_stp1] at hs
    split at hs
    · cases hs
      exact lv_dup2_11 hx hb hdg rfl rfl (k lsR H locs cells slots hL hI h1 h2)
    · cases hs
  case pop =>
    replace hn : n = 1 := hn
    subst hn
    simp only [tb_stp1] at hs
    split at hs
    · cases hs
      exact lv_pop hx hb hdg rfl (k lsR H locs cells slots hL hI h1 h2)
    · cases hs
      exact lv_pop hx hb hdg rfl (k lsR H locs cells slots hL hI h1 h2)
    · cases hs
  case iadd =>
    replace hn : n = 1 := hn
    subst hn
    simp only [tb_stp1] at hs
    split at hs
    · cases hs
      exact lv_iadd hx hb hdg (k lsR H locs cells slots hL hI h1 h2)
    · cases hs
  case isub =>
    replace hn : n = 1 := hn
    subst hn
    simp only [tb_stp1] at hs
    split at hs
    · cases hs
      exact lv_isub hx hb hdg (k lsR H locs cells slots hL hI h1 h2)
    · cases hs
  case imul =>
    replace hn : n = 1 := hn
    subst hn
    simp only [tb_stp1] at hs
    split at hs
    · cases hs
      exact lv_imul hx hb hdg (k lsR H locs cells slots hL hI h1 h2)
    · cases hs
  case iand =>
    replace hn : n = 1 := hn
    subst hn
    simp only [tb_stp1] at hs
    split at hs
    · cases hs
      exact lv_iand hx hb hdg (k lsR H locs cells slots hL hI h1 h2)
    · cases hs
  case ishr =>
    replace hn : n = 1 := hn
    subst hn
    simp only [tb_stp1] at hs
    split at hs
    · cases hs
      exact lv_ishr hx hb hdg (k lsR H locs cells slots hL hI h1 h2)
    · cases hs
  case idiv =>
    replace hn : n = 1 := hn
    subst hn
    simp only [tb_stp1] at hs
    split at hs
    · split at hs
      · cases hs
      · rename_i hne
        cases hs
        exact lv_idiv hx hb hdg hne (k lsR H locs cells slots hL hI h1 h2)
    · cases hs
  case irem =>
    replace hn : n = 1 := hn
    subst hn
    simp only [tb_stp1] at hs
    split at hs
    · split at hs
      · cases hs
      · rename_i hne
        cases hs
        exact lv_irem hx hb hdg hne (k lsR H locs cells slots hL hI h1 h2)
    · cases hs
  case i2c =>
    replace hn : n = 1 := hn
    subst hn
    simp only [tb_stp1] at hs
    split at hs
    · cases hs
      exact lv_i2c hx hb hdg rfl (k lsR H locs cells slots hL hI h1 h2)
    · cases hs
  case getfield ix =>
    replace hn : n = 3 := hn
    subst hn
    simp only [tb_stp1] at hs
    split at hs
    · obtain ⟨q, hq, hs⟩ := Option.bind_eq_some_iff.mp hs
      obtain ⟨v, hv, hs⟩ := Option.bind_eq_some_iff.mp hs
      cases hs
      exact tb_getf C0 hI hq hv hdg (k lsR H locs cells slots hL hI h1 h2)
    · cases hs
  case putfield ix =>
    replace hn : n = 3 := hn
    subst hn
    simp only [tb_stp1] at hs
    split at hs
    · obtain ⟨q, hq, hs⟩ := Option.bind_eq_some_iff.mp hs
      split at hs
      · rename_i hc
        obtain ⟨h', hv, hs⟩ := Option.bind_eq_some_iff.mp hs
        cases hs
        exact tb_putf C0 hI hq hc.1 hc.2 hv hdg (fun H1 locs1 hI1 => k lsR H1 locs1 cells slots hL hI1 h1 h2)
      · cases hs
    · cases hs
  case getstatic ix =>
    replace hn : n = 3 := hn
    subst hn
    simp only [tb_stp1] at hs
    obtain ⟨q, hq, hs⟩ := Option.bind_eq_some_iff.mp hs
    cases hs
    have hm := tb_fd hq
    have hlt : q < 4 := tb_sl_lt _ hm
    have hw : va_Nw (.fieldLinkNest (tb_cn (tb_ow mm)) ix "TiltBoards" (tb_sn q) "[I" "TiltBoards") s := hE.2.1 _ (List.mem_append_right _ (List.mem_map.mpr ⟨_, hm, rfl⟩))
    exact va_getsN (A := fun q => E.2.2 ≤ q) hx hb (hE.2.2.2.1 q hlt) hI.2.2.2 hown (va_Nw.use rfl hw) (fun _ h9 => h9) hdg (k lsR H locs cells slots hL hI h1 h2)
  case iaload =>
    replace hn : n = 1 := hn
    subst hn
    simp only [tb_stp1] at hs
    split at hs
    · obtain ⟨x, hxx, hs⟩ := Option.bind_eq_some_iff.mp hs
      cases hs
      unfold tb_ld at hxx
      split at hxx
      · rename_i n f hr
        split at hxx
        · cases hxx
        · rename_i hi
          cases hxx
          obtain ⟨cell, g1, g2, g3, g4, g5⟩ := tb_rd hE hI hr (by decide)
          exact W.iald hx hb g1 g2 g3 (fun q => hi (q.imp id (fun z => Nat.le_trans g4.1 z))) (g5 _ (Nat.not_le.mp fun q => hi (Or.inr q))) rfl rfl hdg (k lsR H locs cells slots hL hI h1 h2)
      · cases hxx
    · cases hs
  case baload =>
    replace hn : n = 1 := hn
    subst hn
    simp only [tb_stp1] at hs
    split at hs
    · obtain ⟨x, hxx, hs⟩ := Option.bind_eq_some_iff.mp hs
      cases hs
      unfold tb_ld at hxx
      split at hxx
      · rename_i n f hr
        split at hxx
        · cases hxx
        · rename_i hi
          cases hxx
          obtain ⟨cell, g1, g2, g3, g4, g5⟩ := tb_rd hE hI hr (by decide)
          exact W.zald hx hb g1 g2 g3 (fun q => hi (q.imp id (fun z => Nat.le_trans g4.1 z))) (g5 _ (Nat.not_le.mp fun q => hi (Or.inr q))) rfl rfl hdg (k lsR H locs cells slots hL hI h1 h2)
      · cases hxx
    · cases hs
  case caload =>
    replace hn : n = 1 := hn
    subst hn
    simp only [tb_stp1] at hs
    split at hs
    · obtain ⟨x, hxx, hs⟩ := Option.bind_eq_some_iff.mp hs
      cases hs
      unfold tb_ld at hxx
      split at hxx
      · rename_i n f hr
        split at hxx
        · cases hxx
        · rename_i hi
          cases hxx
          obtain ⟨cell, g1, g2, g3, g4, g5⟩ := tb_rd hE hI hr (by decide)
          exact W.cald hx hb g1 g2 g3 (fun q => hi (q.imp id (fun z => Nat.le_trans g4.1 z))) (g5 _ (Nat.not_le.mp fun q => hi (Or.inr q))) rfl rfl hdg (k lsR H locs cells slots hL hI h1 h2)
      · cases hxx
    · cases hs
  case aaload =>
    replace hn : n = 1 := hn
    subst hn
    simp only [tb_stp1] at hs
    split at hs
    · obtain ⟨x, hxx, hs⟩ := Option.bind_eq_some_iff.mp hs
      cases hs
      exact tb_aald C0 hI hxx hdg (k lsR H locs cells slots hL hI h1 h2)
    · cases hs
  case aastore =>
    replace hn : n = 1 := hn
    subst hn
    simp only [tb_stp1] at hs
    split at hs
    · obtain ⟨x, hxx, hs⟩ := Option.bind_eq_some_iff.mp hs
      cases hs
      exact tb_aast C0 hI hxx hdg (fun H1 locs1 hI1 => k lsR H1 locs1 cells slots hL hI1 h1 h2)
    · cases hs
  case iastore =>
    replace hn : n = 1 := hn
    subst hn
    simp only [tb_stp1] at hs
    split at hs
    · obtain ⟨h', hxx, hs⟩ := Option.bind_eq_some_iff.mp hs
      obtain ⟨n, f, g1, g2, rfl⟩ := tb_stv_ok hI hxx
      cases hs
      have hc := (hI.1 _ _ g1).2.1
      refine W.iast hx hb hc ((hE.1.2 _ _ (tb_tys_get dA (t := 0) (by decide))).1 n (fun j => .int (f j))) (fun q => by cases q) (by show ¬ (_ ∨ (arrV _ _ _).slots.size ≤ _); rw [arrV_size]; exact g2) rfl rfl hdg fun H1 e1 z1 oq => ?_
      exact k lsR H1 _ cells slots hL (tb_store hI g1 e1 z1 oq (fun q => by cases q)) h1 h2
    · cases hs
  case bastore =>
    replace hn : n = 1 := hn
    subst hn
    simp only [tb_stp1] at hs
    split at hs
    · split at hs
      · rename_i hw
        obtain ⟨h', hxx, hs⟩ := Option.bind_eq_some_iff.mp hs
        obtain ⟨n, f, g1, g2, rfl⟩ := tb_stv_ok hI hxx
        cases hs
        have hc := (hI.1 _ _ g1).2.1
        refine W.zast hx hb hc ((hE.1.2 _ _ (tb_tys_get dA (t := 1) (by decide))).1 n (fun j => .int (f j))) (fun q => by cases q) (by show ¬ (_ ∨ (arrV _ _ _).slots.size ≤ _); rw [arrV_size]; exact g2) rfl rfl hdg fun H1 e1 z1 oq => ?_
        exact k lsR H1 _ cells slots hL (tb_store hI g1 (by rw [e1]; rcases hw with rfl | rfl <;> rfl) z1 oq (fun _ => hw)) h1 h2
      · cases hs
    · cases hs
  case castore =>
    replace hn : n = 1 := hn
    subst hn
    simp only [tb_stp1] at hs
    split at hs
    · split at hs
      · rename_i hw
        obtain ⟨h', hxx, hs⟩ := Option.bind_eq_some_iff.mp hs
        obtain ⟨n, f, g1, g2, rfl⟩ := tb_stv_ok hI hxx
        cases hs
        have hc := (hI.1 _ _ g1).2.1
        refine W.cast hx hb hc ((hE.1.2 _ _ (tb_tys_get dA (t := 2) (by decide))).1 n (fun j => .int (f j))) (fun q => by cases q) (by show ¬ (_ ∨ (arrV _ _ _).slots.size ≤ _); rw [arrV_size]; exact g2) rfl rfl hdg fun H1 e1 z1 oq => ?_
        exact k lsR H1 _ cells slots hL (tb_store hI g1 (by rw [e1, (tb_vok_ok (ty := .char) (by simp [tb_vok, hw])).1]) z1 oq (fun q => by cases q)) h1 h2
      · cases hs
    · cases hs
  case arraylength =>
    replace hn : n = 1 := hn
    subst hn
    simp only [tb_stp1] at hs
    split at hs
    · obtain ⟨q, hq, hs⟩ := Option.bind_eq_some_iff.mp hs
      cases hs
      obtain ⟨cell, g1, g2, g3, g4, g5⟩ := tb_rd hE hI (n := q.1) (f := q.2) hq (by decide)
      exact W.alen (n := Int32.ofNat q.1) hx hb g1 g2 g4.2 rfl rfl hdg (k lsR H locs cells slots hL hI h1 h2)
    · cases hs
  case new ix =>
    replace hn : n = 3 := hn
    subst hn
    simp only [tb_stp1] at hs
    obtain ⟨ci, hci, hs⟩ := Option.bind_eq_some_iff.mp hs
    split at hs
    · rename_i hbd
      cases hs
      obtain ⟨h7, hcl⟩ := tb_k6 _ (tb_fd hci)
      dsimp only at h7 hcl
      have hc := tb_cls_get h7
      have hKn := hE.1.1 ci _ hc
      refine W.newcK hx hb hown (hts _ (tb_bg hcl rfl)) (hts _ (tb_bg (tb_k8 ci h7).2 rfl)) (hts _ (tb_bg (tb_k3 ci (by omega)) rfl)) rfl hdg (by omega) (by omega) hKn.2.1 hI.2.1 fun H1 kC hkC e1 z1 o1 => ?_
      refine k lsR H1 locs (cells + 1) (slots + tb_nF ci) hL (hI.new ?_ trivial z1 o1) (by dsimp only; omega) (by dsimp only; omega)
      refine ⟨_, hc, (u_born (tb_T ci) hts (tb_bg_u h7) hKn hkC e1 (tb_k9 ci h7).1).to (fun j hj => ?_)⟩
      show defaultValue (tb_T ci j) = (tb_df ci).getD j .null
      rw [List.getD_eq_getElem?_getD, tb_default ci h7 j hj]
      rfl
    · cases hs
  case newarray at0 =>
    replace hn : n = 2 := hn
    subst hn
    simp only [tb_stp1] at hs
    split at hs
    · obtain ⟨ty, hty, hs⟩ := Option.bind_eq_some_iff.mp hs
      split at hs
      · rename_i hbd
        obtain ⟨b1, b2, b3, b4⟩ := hbd
        cases hs
        have hat : newarray.typeOf at0 = tb_aty ty ∧ ty < 3 := by cases at0 <;> simp only [Option.some.injEq, reduceCtorEq] at hty <;> subst hty <;> exact ⟨rfl, by decide⟩
        obtain ⟨ha1, ha2⟩ := hat
        have hac : (Cond.arrayClass (newarray.typeOf at0)).before args s = true := by
          rw [ha1]
          rcases (by omega : ty = 0 ∨ ty = 1 ∨ ty = 2) with rfl | rfl | rfl <;> exact hts _ (tb_bg (by decide +kernel) rfl)
        have hcb : componentBytes (newarray.typeOf at0) ≤ 4 := by
          rw [ha1]
          rcases (by omega : ty = 0 ∨ ty = 1 ∨ ty = 2) with rfl | rfl | rfl <;> decide
        have hdv : defaultValue (tb_aty ty) = .int 0 := by
          rcases (by omega : ty = 0 ∨ ty = 1 ∨ ty = 2) with rfl | rfl | rfl <;> rfl
        refine va_newaK hx hb hac rfl hdg rfl b1 rfl (Nat.le_trans (Nat.mul_le_mul b2 hcb) (by decide)) (by omega) (by omega) hI.2.1 fun H1 cA e1 z1 o1 hAr hNm => ?_
        refine k lsR H1 locs (cells + 1) _ hL (hI.new ?_ ⟨ha2, fun _ _ => Or.inl rfl⟩ z1 o1) (by dsimp only; omega) (by dsimp only; omega)
        have hra := (hE.1.2 _ _ (tb_tys_get dA ha2)).2
        have hcA : cA = dA ty := by
          rw [ha1] at hNm
          rcases (by omega : ty = 0 ∨ ty = 1 ∨ ty = 2) with rfl | rfl | rfl <;> exact Option.some.inj (hNm.symm.trans hra)
        rw [ha1, hdv, hcA] at e1
        exact e1
      · cases hs
    · cases hs
  case anewarray ix =>
    replace hn : n = 3 := hn
    subst hn
    simp only [tb_stp1] at hs
    split at hs
    · rename_i nn r0
      obtain ⟨ci, hci, hs⟩ := Option.bind_eq_some_iff.mp hs
      split at hs
      · rename_i hbd
        obtain ⟨b0, b1, b2, b3, b4⟩ := hbd
        cases hs
        obtain ⟨h7, hcl⟩ := tb_k6 _ (tb_fd hci)
        dsimp only at h7 hcl
        have hover : va_AO (tb_cn ci) s := by
          rcases b0 with rfl | rfl
          · exact hE.2.2.1.1
          · exact hE.2.2.1.2
        refine W.anew hx hb hown (hts _ (tb_bg hcl rfl)) (va_AO.use hover) rfl hdg rfl b1 (by omega) (by omega) (by omega) fun cA kA comp f1 f2 f3 f4 => ?_
        generalize hH1 : H.push ({ cls := cA, slots := Array.replicate _ .null, vm := .none } : Cell) = H1
        have z1 : H1.size = nx + 1 := by rw [← hH1, Array.size_push, hI.2.1]
        have e1 : H1[H.size]? = some (arrV cA nn.toNatClampNeg (fun _ => .null)) := by rw [← hH1, Array.getElem?_push_size, ← arrV_new]
        have o1 : ∀ q : Nat, q < nx → H1[q]? = H[q]? := fun q hq => by rw [← hH1, Array.getElem?_push, if_neg (by have := hI.2.1; omega)]
        rw [hI.2.1] at e1 ⊢
        refine k lsR H1 locs (cells + 1) _ hL (hI.new ?_ b0 z1 o1) (by dsimp only; omega) (by dsimp only; omega)
        obtain ⟨t0, ht⟩ := tb_tys_getq dA b0
        obtain ⟨kA', comp', k1, k2, k3, k4⟩ := (hE.1.2 t0 _ ht).2
        have hcA : cA = dA (10 + ci) := Option.some.inj (f1.symm.trans k4)
        rw [hcA] at e1
        show H1[nx]? = some (vp_cell (dA (10 + ci)) _)
        generalize dA (10 + ci) = cB at e1 ⊢
        rw [vp_cell_q]
        exact e1
      · cases hs
    · cases hs
  case goto off =>
    replace hn : n = 3 := hn
    subst hn
    simp only [tb_stp1] at hs
    obtain ⟨t, ht, hs⟩ := Option.bind_eq_some_iff.mp hs
    cases hs
    exact lv_goto hx hb hdg (tb_tg_ok ht) (k lsR H locs cells slots hL hI h1 h2)
  case ifCond cd0 off =>
    replace hn : n = 3 := hn
    subst hn
    simp only [tb_stp1] at hs
    split at hs
    · obtain ⟨t, ht, hs⟩ := Option.bind_eq_some_iff.mp hs
      cases hs
      have k := k lsR H locs cells slots hL hI h1 h2
      dsimp only at k
      cases cd0
      case eq =>
        refine lv_if_eq hx hb hdg (tb_tg_ok ht) (fun hc => ?_) (fun hc => ?_)
        · simpa [tb_cnd, hc] using k
        · simpa [tb_cnd, hc] using k
      case ne =>
        refine lv_if_ne hx hb hdg (tb_tg_ok ht) (fun hc => ?_) (fun hc => ?_)
        · simpa [tb_cnd, hc] using k
        · simpa [tb_cnd, hc] using k
      case lt =>
        refine lv_if_lt hx hb hdg (tb_tg_ok ht) (fun hc => ?_) (fun hc => ?_)
        · simpa [tb_cnd, hc] using k
        · simpa [tb_cnd, hc] using k
      case ge =>
        refine lv_if_ge hx hb hdg (tb_tg_ok ht) (fun hc => ?_) (fun hc => ?_)
        · simpa [tb_cnd, hc] using k
        · simpa [tb_cnd, hc] using k
      case gt =>
        refine lv_if_gt hx hb hdg (tb_tg_ok ht) (fun hc => ?_) (fun hc => ?_)
        · simpa [tb_cnd, hc] using k
        · simpa [tb_cnd, hc] using k
      case le =>
        refine lv_if_le hx hb hdg (tb_tg_ok ht) (fun hc => ?_) (fun hc => ?_)
        · simpa [tb_cnd, hc] using k
        · simpa [tb_cnd, hc] using k
    · cases hs
  case if_icmp cd0 off =>
    replace hn : n = 3 := hn
    subst hn
    simp only [tb_stp1] at hs
    split at hs
    · obtain ⟨t, ht, hs⟩ := Option.bind_eq_some_iff.mp hs
      cases hs
      have k := k lsR H locs cells slots hL hI h1 h2
      dsimp only at k
      cases cd0
      case eq =>
        refine lv_icmp_eq hx hb hdg (tb_tg_ok ht) (fun hc => ?_) (fun hc => ?_)
        · simpa [tb_cnd, hc] using k
        · simpa [tb_cnd, hc] using k
      case ne =>
        refine lv_icmp_ne hx hb hdg (tb_tg_ok ht) (fun hc => ?_) (fun hc => ?_)
        · simpa [tb_cnd, hc] using k
        · simpa [tb_cnd, hc] using k
      case lt =>
        refine lv_icmp_lt hx hb hdg (tb_tg_ok ht) (fun hc => ?_) (fun hc => ?_)
        · simpa [tb_cnd, hc] using k
        · simpa [tb_cnd, hc] using k
      case ge =>
        refine lv_icmp_ge hx hb hdg (tb_tg_ok ht) (fun hc => ?_) (fun hc => ?_)
        · simpa [tb_cnd, hc] using k
        · simpa [tb_cnd, hc] using k
      case gt =>
        refine lv_icmp_gt hx hb hdg (tb_tg_ok ht) (fun hc => ?_) (fun hc => ?_)
        · simpa [tb_cnd, hc] using k
        · simpa [tb_cnd, hc] using k
      case le =>
        refine lv_icmp_le hx hb hdg (tb_tg_ok ht) (fun hc => ?_) (fun hc => ?_)
        · simpa [tb_cnd, hc] using k
        · simpa [tb_cnd, hc] using k
    · cases hs
  case tableswitch df lo hi offs =>
    replace hn : n = n := hn
    simp only [tb_stp1] at hs
    split at hs
    · split at hs
      · rename_i hc
        obtain ⟨t, ht, hs⟩ := Option.bind_eq_some_iff.mp hs
        cases hs
        exact lv_tableOut hx hb hdg hc (tb_tg_ok ht) (k lsR H locs cells slots hL hI h1 h2)
      · rename_i hc
        obtain ⟨o, ho, hs⟩ := Option.bind_eq_some_iff.mp hs
        obtain ⟨t, ht, hs⟩ := Option.bind_eq_some_iff.mp hs
        cases hs
        exact lv_tableIn hx hb hdg (fun q => hc (Or.inl q)) (fun q => hc (Or.inr q)) ho (tb_tg_ok ht) (k lsR H locs cells slots hL hI h1 h2)
    · cases hs
  case lookupswitch df ps =>
    replace hn : n = n := hn
    simp only [tb_stp1] at hs
    split at hs
    · split at hs
      · rename_i hc
        obtain ⟨t, ht, hs⟩ := Option.bind_eq_some_iff.mp hs
        cases hs
        exact lv_lookup hx hb hdg hc rfl (tb_tg_ok ht) (k lsR H locs cells slots hL hI h1 h2)
      · cases hs
    · cases hs
  case invokespecial ix =>
    replace hn : n = 3 := hn
    subst hn
    simp only [tb_stp1] at hs
    split at hs
    · rename_i a r
      split at hs
      · rename_i hc
        obtain ⟨c1, c2, c3⟩ := hc
        cases hs
        obtain ⟨j0, hj0⟩ := tb_lk_ok c1
        have hl0 := (tb_k4s1001 _ hj0 rfl).2
        have hsm : (r.map fun v => v.category).sum ≤ 8 := by simpa [tb_sm] using c3
        refine W.objInit hx hb hown (hts _ (tb_bg (List.mem_of_getElem? hl0) rfl)) (hts _ (tb_bg (by decide +kernel) rfl)) (hts _ (tb_bg (by decide +kernel) rfl)) rfl (by rw [hml]; exact hsz) rfl hdg (by omega) (by show 2 * 0 + _ + 12 ≤ _; omega) ?_
        exact k lsR H locs cells slots hL hI h1 h2
      · cases hs
    · cases hs
  case invokestatic ix =>
    replace hn : n = 3 := hn
    subst hn
    simp only [tb_stp1] at hs
    split at hs
    · rename_i hlk
      split at hs
      · rename_i y x r
        split at hs
        · rename_i hc
          obtain ⟨c2, c3⟩ := hc
          cases hs
          obtain ⟨j0, hj0⟩ := tb_lk_ok hlk
          have hl0 := (tb_k4s1002 _ hj0 rfl).2
          have hsm : (r.map fun v => v.category).sum ≤ 8 := by simpa [tb_sm] using c3
          refine va_mmax hx hb (by rw [hml]; exact hsz.symm) hown (hts _ (tb_bg (List.mem_of_getElem? hl0) rfl)) (hts _ (tb_bg (by decide +kernel) rfl)) (hts _ (tb_bg (by decide +kernel) rfl)) (hts _ (tb_bg (by decide +kernel) rfl)) (by omega) (by omega) (by omega) (by omega) hdg ?_
          exact k lsR H locs cells slots hL hI h1 h2
        · cases hs
      · cases hs
    · rename_i hlk
      split at hs
      · rename_i y x r
        split at hs
        · rename_i hc
          obtain ⟨c2, c3⟩ := hc
          cases hs
          obtain ⟨j0, hj0⟩ := tb_lk_ok hlk
          have hl0 := (tb_k4s1003 _ hj0 rfl).2
          have hsm : (r.map fun v => v.category).sum ≤ 8 := by simpa [tb_sm] using c3
          refine va_mmin hx hb (by rw [hml]; exact hsz.symm) hown (hts _ (tb_bg (List.mem_of_getElem? hl0) rfl)) (hts _ (tb_bg (by decide +kernel) rfl)) (hts _ (tb_bg (by decide +kernel) rfl)) (hts _ (tb_bg (by decide +kernel) rfl)) (by omega) (by omega) (by omega) (by omega) hdg ?_
          exact k lsR H locs cells slots hL hI h1 h2
        · cases hs
      · cases hs
    · rename_i hlk
      split at hs
      · split at hs
        · rename_i hc
          obtain ⟨h', hh', hs⟩ := Option.bind_eq_some_iff.mp hs
          cases hs
          exact tb_copy C0 hsz hI hlk hc.1 hc.2 hh' hdg (fun H1 locs1 hI1 => k lsR H1 locs1 cells slots hL hI1 h1 h2)
        · cases hs
      · cases hs
    · cases hs
  all_goals (simp only [tb_stp1, reduceCtorEq] at hs)
theorem tb_sim (C0 : tb_Ctx D dA E p R s m args meth c d mm) {pc : Nat} {ls st : List Value} {h : tb_heap} {nx bc bs : Nat} {z : tb_cfg} (hs : tb_stp E d mm pc ls st h nx bc bs = some z) (k : tb_W1 D dA E p l e R s m args below meth c Q mm z) : tb_W1 D dA E p l e R s m args below meth c Q mm (pc, ls, st, h, nx, bc, bs) := by
  unfold tb_stp at hs
  split at hs
  · rename_i i n hcd
    split at hs
    · rename_i hn
      exact tb_sim1 C0 (tb_cd_ok hcd) hn hs k
    · cases hs
  · cases hs
end TB2
