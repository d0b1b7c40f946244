/-! ONE INSTRUCTION OF THE MINI MACHINE, ON THE REAL ONE -/
section TB1
variable {p : Program} {l : Launch} {e : Env} {R : Room} {s : State} {m : MethodId} {args : Array Value} {below : List Frame} {meth : Method} {c : Code} {Q : State → Prop} {D : va_G} {dA : Nat → ClassId} {E : tb_env} {d mm : Nat}
def tb_Ctx (D : va_G) (dA : Nat → ClassId) (E : tb_env) (p : Program) (R : Room) (s : State) (m : MethodId) (args : Array Value) (meth : Method) (c : Code) (d mm : Nat) : Prop :=
  p.tables.exec = Jvm.exec ∧ c.code = tb_by mm ∧ c.maxLocals = tb_mL mm ∧ s.vm.findClass (tb_cn (tb_ow mm)) = some m.cls ∧ (∀ w ∈ tb_big, w.before args s = true) ∧ meth.locks = false ∧ (tb_kd mm = 2 → meth.name = "<init>") ∧ tb_EN D dA E s ∧ R.frames = d ∧ 38 * d ≤ R.locals
def tb_W1 (D : va_G) (dA : Nat → ClassId) (E : tb_env) (p : Program) (l : Launch) (e : Env) (R : Room) (s : State) (m : MethodId) (args : Array Value) (below : List Frame) (meth : Method) (c : Code) (Q : State → Prop) (mm : Nat) (z : tb_cfg) : Prop :=
  ∀ (lsR : Array Slot) (H : Heap) (locs : List Loc) (cells slots : Nat), tb_LR lsR (tb_mL mm) z.2.1 → tb_IV D dA E s z.2.2.2.1 z.2.2.2.2.1 H locs → cells + z.2.2.2.2.2.1 ≤ R.cells → slots + z.2.2.2.2.2.2 ≤ R.slots → W p l e R s m args below meth c H locs cells slots Q (F0 m z.1 lsR z.2.2.1)
theorem tb_tys_get (dA : Nat → ClassId) {t : Nat} (ht : t < 3) : (tb_tys dA)[t]? = some (dA t, tb_aty t) := by
  rcases (by omega : t = 0 ∨ t = 1 ∨ t = 2) with rfl | rfl | rfl <;> rfl
theorem tb_tys_getq (dA : Nat → ClassId) {ci : Nat} (hc : ci = 0 ∨ ci = 4) : ∃ k : Nat, (tb_tys dA)[k]? = some (dA (10 + ci), .object (tb_cn ci)) := by
  rcases hc with rfl | rfl
  · exact ⟨3, rfl⟩
  · exact ⟨4, rfl⟩
/-- a read of a row -/
theorem tb_rd {h : tb_heap} {nx : Nat} {H : Heap} {locs : List Loc} (hE : tb_EN D dA E s) (hI : tb_IV D dA E s h nx H locs) {ty a n : Nat} {f : Nat → Int32} (hr : tb_ra E h ty a = some (n, f)) (hty : ty < 3) : ∃ cell : Cell, H[a]? = some cell ∧ s.isArrayOf cell (tb_aty ty) ∧ cell.vm ≠ .unknown ∧ (n ≤ cell.slots.size ∧ cell.slots.size.toInt32 = Int32.ofNat n) ∧ ∀ j, j < n → cell.slots[j]? = some (.int (f j)) := by
  unfold tb_ra at hr
  split at hr
  · rename_i t n' f' hx
    split at hr
    · rename_i e; subst e
      cases hr
      obtain ⟨h1, h2, h3⟩ := hI.1 a _ hx
      refine ⟨_, h2, ((hE.1.2 _ _ (tb_tys_get dA hty)).1 n (fun j => .int (f j))), (fun q => by cases q), ?_, fun j hj => ?_⟩
      · show n ≤ (arrV _ _ _).slots.size ∧ (arrV _ _ _).slots.size.toInt32 = _
        rw [arrV_size]
        exact ⟨Nat.le_refl _, rfl⟩
      · show (arrV _ _ _).slots[_]? = _
        rw [arrV_read _ _ hj]
    · cases hr
  · cases hr
  · rename_i hx
    split at hr
    · rename_i e; subst e
      obtain ⟨scr, g3, g4, g5, g6, g7, g8, g1⟩ := hE.2.2.2.2 a n f hr
      exact ⟨scr, by rw [hI.2.2.2.2.1 a (Array.getElem?_eq_some_iff.mp g3).1 g1]; exact g3, g4, g5, ⟨g6, g7⟩, g8⟩
    · cases hr
theorem tb_stv_ok {h h' : tb_heap} {nx : Nat} {H : Heap} {locs : List Loc} (hI : tb_IV D dA E s h nx H locs) {ty a : Nat} {i x : Int32} (hr : tb_stv h ty a i x = some h') : ∃ n f, h a = some (.inr (.inl (ty, n, f))) ∧ vp_in i n ∧ h' = tb_up h a (.inr (.inl (ty, n, upd f i.toNatClampNeg x))) := by
  unfold tb_stv at hr
  split at hr
  · rename_i t n f hx
    split at hr
    · rename_i e; subst e
      split at hr
      · cases hr
      · rename_i hin
        cases hr
        exact ⟨n, f, hx, hin, rfl⟩
    · cases hr
  · cases hr
theorem tb_store {h : tb_heap} {nx : Nat} {H H1 : Heap} {locs : List Loc} (hI : tb_IV D dA E s h nx H locs) {t a n k : Nat} {f : Nat → Int32} {x : Int32} (hx : h a = some (.inr (.inl (t, n, f)))) (he : H1[a]? = some ((vp_cell (dA t) (n, .inl f)).setSlot k (.int x))) (z : H1.size = H.size) (oq : ∀ q : Nat, q ≠ a → H1[q]? = H[q]?) (hw : t = 1 → x = 0 ∨ x = 1) :
    tb_IV D dA E s (tb_up h a (.inr (.inl (t, n, upd f k x)))) nx H1 (locs ++ [⟨a, k⟩]) := by
  obtain ⟨-, -, w1, w2⟩ := hI.1 a _ hx
  refine hI.put hx ?_ ⟨w1, fun e j => ?_⟩ z oq
  · show H1[a]? = some (vp_cell _ _)
    rw [he, vp_cell_i, vp_cell_i, arrV_store]
    congr 2
    funext q
    by_cases hq : q = k
    · subst hq
      simp [updV, upd]
    · simp [updV, upd, hq]
  · show upd f k x j = 0 ∨ upd f k x j = 1
    unfold upd
    split
    · exact hw e
    · exact w2 e j
theorem tb_putf {h h' : tb_heap} {nx : Nat} {H : Heap} {locs : List Loc} {cells slots pc ix a : Nat} {lsR : Array Slot} {rest : List Value} {v : Value} {q : Nat × Nat} (C0 : tb_Ctx D dA E p R s m args meth c d mm) (hI : tb_IV D dA E s h nx H locs) (hfl : tb_fl (tb_ow mm) ix = some q) (hv : tb_vok (tb_T q.1 q.2) v = true) (hf : (tb_F q.1 q.2).2.2.2 = false ∨ (tb_kd mm = 2 ∧ tb_ow mm = q.1)) (hp : tb_pf h a q.1 q.2 v = some h') (hdg : decode (tb_by mm) pc = .ok (.putfield ix, 3))
    (kk : ∀ (H1 : Heap) (locs1 : List Loc), tb_IV D dA E s h' nx H1 locs1 → W p l e R s m args below meth c H1 locs1 cells slots Q (F0 m (pc + 3) lsR rest)) : W p l e R s m args below meth c H locs cells slots Q (F0 m pc lsR (v :: .ref a :: rest)) := by
  obtain ⟨hx, hb, hml, hown, hts, hlk, hin, hE, hR⟩ := C0
  obtain ⟨ci, k⟩ := q
  obtain ⟨h7, hk, hlink, hcls⟩ := tb_k5 _ (tb_fd hfl)
  dsimp only at h7 hk hlink hcls hv hf hp
  unfold tb_pf at hp
  split at hp
  · rename_i c0 fs hx0
    split at hp
    · rename_i hce
      obtain ⟨rfl, hlen⟩ := hce
      cases hp
      have hc := tb_cls_get h7
      have hti := tb_bg_u h7
      have hty := (tb_k9 c0 h7).1
      have hnm := (tb_k9 c0 h7).2
      have hl2 := hts _ (tb_bg hlink rfl)
      have hap := va_apart (own := "") hts hti (tb_T c0) hty hnm hE.1 hc
      obtain ⟨hbase, ⟨r, h1, cell, q1, q2, q3, q4⟩, -⟩ := hI.1 a _ hx0
      have hr : r = (tb_cn c0, tb_F c0, tb_nF c0) := Option.some.inj (h1.symm.trans hc)
      subst hr
      obtain ⟨hS, hfc, kC, hkC, hkind⟩ := hE.1.1 c0 _ hc
      obtain ⟨cf, kf, fi, f, hi, hsl⟩ := hS k hk
      dsimp only at hi hsl hfc
      obtain ⟨vn, vf⟩ := tb_vok_ok hv
      have hi' : s.fieldFound? (tb_cn c0) (tb_F c0 k).2.1 (tb_F c0 k).2.2.1 = some (cf, kf, fi, f) := by rw [← hcls]; exact hi
      have hst := (u_facts hfc hkC (u_lays hts hti hk) hi).1
      have fin : ∀ H' : Heap, H'[a]? = some (cell.setSlot (D.2 c0 k) v) → H'.size = H.size → (∀ q, q ≠ a → H'[q]? = H[q]?) → tb_IV D dA E s (tb_up h a (.inl (c0, fs.set k v))) nx H' (locs ++ [⟨a, D.2 c0 k⟩]) := by
        intro H' e1 e2 e3
        refine hI.put hx0 ?_ trivial e2 e3
        exact ⟨_, hc, t_OB.to (V := updV (vp_V fs) k v) ⟨_, e1, q2, q3, t_set q4 hap hk v⟩ (fun j _ => vp_updV_set hlen v j)⟩
      by_cases hfin : (tb_F c0 k).2.2.2 = false
      · have hlay := hts _ (hti _ (u_in_lay hk))
        unfold u_lay at hlay
        rw [if_neg (by rw [hfin]; decide)] at hlay
        have h6 := u_store hfc hkC hkind hlay hi (hty k hk) vn vf
        refine W.putK hx hb (f := f) ⟨hown, hl2, ⟨_, _, _, hi'⟩, hst⟩ (by rw [q2]; exact h6) q1 q3 (by rw [hsl]; exact k2_hasslot (q4 k hk)) rfl rfl hdg fun H' e1 e2 e3 => ?_
        rw [hsl] at e1 ⊢
        exact kk H' _ (fin H' e1 e2 e3)
      · have hfin : (tb_F c0 k).2.2.2 = true := by simpa using hfin
        rcases hf with hf | ⟨hf1, hf2⟩
        · rw [hf] at hfin; cases hfin
        have hlay := hts _ (hti _ (u_in_lay hk))
        unfold u_lay at hlay
        rw [if_pos hfin] at hlay
        have hcf : m.cls = cf := by
          obtain ⟨_, _, c', _, _, _, -, -, hf', -, -, -, hown2, -⟩ := Cond.laysFinal_spec hlay
          have e1 : c' = cf := by have := hi.symm.trans hf'; simp at this; exact this.1.symm
          rw [hcls] at hown2
          rw [← e1]
          rw [hf2] at hown
          exact Option.some.inj (hown.symm.trans hown2)
        have h6 := u_fits hfc hkC hkind (Or.inr hlay) hi (hty k hk) vn vf
        refine W.putFinK hx hb hown hl2 hi' hst hcf (hin hf1) (by rw [q2]; exact h6) q1 q3 (by rw [hsl]; exact k2_hasslot (q4 k hk)) rfl rfl hdg fun H' e1 e2 e3 => ?_
        rw [hsl] at e1 ⊢
        exact kk H' _ (fin H' e1 e2 e3)
    · cases hp
  · cases hp
theorem tb_getf {h : tb_heap} {nx : Nat} {H : Heap} {locs : List Loc} {cells slots pc ix a : Nat} {lsR : Array Slot} {rest : List Value} {v : Value} {q : Nat × Nat} (C0 : tb_Ctx D dA E p R s m args meth c d mm) (hI : tb_IV D dA E s h nx H locs) (hfl : tb_fl (tb_ow mm) ix = some q) (hg : tb_gf h a q.1 q.2 = some v) (hdg : decode (tb_by mm) pc = .ok (.getfield ix, 3))
    (kk : W p l e R s m args below meth c H locs cells slots Q (F0 m (pc + 3) lsR (v :: rest))) : W p l e R s m args below meth c H locs cells slots Q (F0 m pc lsR (.ref a :: rest)) := by
  obtain ⟨hx, hb, hml, hown, hts, hlk, hin, hE, hR⟩ := C0
  obtain ⟨ci, k⟩ := q
  obtain ⟨h7, hk, hlink, hcls⟩ := tb_k5 _ (tb_fd hfl)
  dsimp only at h7 hk hlink hcls hg
  unfold tb_gf at hg
  split at hg
  · rename_i c0 fs hx0
    split at hg
    · rename_i e; subst e
      exact va_get (D := D) (ci := c0) (C := tb_cn c0) (T := tb_F c0) (N := tb_nF c0) (ref := tb_cn c0) hx hb hts (tb_bg_u h7) hown hE.1 (hI.1.at hx0) 0 rfl (tb_cls_get h7) k hk (hts _ (tb_bg hlink rfl)) (fun x h9 => by rw [hcls] at h9; exact h9) hg hdg kk
    · cases hg
  · cases hg
theorem tb_aald {h : tb_heap} {nx : Nat} {H : Heap} {locs : List Loc} {cells slots pc a x : Nat} {i : Int32} {lsR : Array Slot} {rest : List Value} (C0 : tb_Ctx D dA E p R s m args meth c d mm) (hI : tb_IV D dA E s h nx H locs) (hg : tb_ald h a i = some x) (hdg : decode (tb_by mm) pc = .ok (.aaload, 1))
    (kk : W p l e R s m args below meth c H locs cells slots Q (F0 m (pc + 1) lsR (.ref x :: rest))) : W p l e R s m args below meth c H locs cells slots Q (F0 m pc lsR (.int i :: .ref a :: rest)) := by
  obtain ⟨hx, hb, hml, hown, hts, hlk, hin, hE, hR⟩ := C0
  unfold tb_ald at hg
  split at hg
  · rename_i c0 n g hx0
    split at hg
    · cases hg
    · rename_i hi
      obtain ⟨-, h2, h3⟩ := hI.1 a _ hx0
      obtain ⟨t0, ht⟩ := tb_tys_getq dA h3
      refine va_aldq (D := D) (tys := tb_tys dA) hx hb hE.1 (hI.1.at hx0) 0 t0 rfl ht (show vp_in i n from hi) hdg ?_
      show W p l e R s m args below meth c H locs cells slots Q (F0 m (pc + 1) lsR (va_rf (g i.toNatClampNeg) :: rest))
      rw [hg]
      exact kk
  · cases hg
theorem tb_aast {h h' : tb_heap} {nx : Nat} {H : Heap} {locs : List Loc} {cells slots pc a v : Nat} {i : Int32} {lsR : Array Slot} {rest : List Value} (C0 : tb_Ctx D dA E p R s m args meth c d mm) (hI : tb_IV D dA E s h nx H locs) (hg : tb_ast h a i v = some h') (hdg : decode (tb_by mm) pc = .ok (.aastore, 1))
    (kk : ∀ (H1 : Heap) (locs1 : List Loc), tb_IV D dA E s h' nx H1 locs1 → W p l e R s m args below meth c H1 locs1 cells slots Q (F0 m (pc + 1) lsR rest)) : W p l e R s m args below meth c H locs cells slots Q (F0 m pc lsR (.ref v :: .int i :: .ref a :: rest)) := by
  obtain ⟨hx, hb, hml, hown, hts, hlk, hin, hE, hR⟩ := C0
  unfold tb_ast at hg
  split at hg
  · rename_i c0 n g c1 fs hx0 hx1
    split at hg
    · rename_i ec; subst ec
      split at hg
      · cases hg
      · rename_i hi
        cases hg
        have hlt : i.toNatClampNeg < n := Nat.not_le.mp fun q => hi (Or.inr q)
        have h0 : ¬ i < 0 := fun q => hi (Or.inl q)
        obtain ⟨-, h2, h3⟩ := hI.1 a _ hx0
        obtain ⟨-, ⟨r, g0, cellV, g1, g2, g3, -⟩, -⟩ := hI.1 v _ hx1
        obtain ⟨t0, ht⟩ := tb_tys_getq dA h3
        have h7 := tb_cls_lt g0
        have hcls := (hE.1.1 c1 _ (tb_cls_get h7)).2
        dsimp only at hcls
        obtain ⟨kA, comp, k1, k2, k3, -⟩ := (hE.1.2 t0 _ ht).2
        have hcomp : comp = D.1 c1 := Option.some.inj (k3.symm.trans hcls.1)
        subst hcomp
        obtain ⟨kC, hkC, -⟩ := hcls.2
        refine W.aast hx hb h2 (fun q h => by cases h) (fun h => by cases h) k1 k2 rfl hkC ⟨h0, by show _ < (arrV _ _ _).slots.size; rw [arrV_size]; exact hlt⟩ g1 (fun q h => by rw [g3] at h; cases h) (by rw [g2]; exact hkC) (by rw [g2]; exact va_assign hcls) rfl rfl hdg fun H1 e1 z oq => ?_
        refine kk H1 _ (hI.put hx0 ?_ h3 z oq)
        show H1[a]? = some (vp_cell _ _)
        rw [e1]
        show some (Cell.setSlot (vp_cell (dA (10 + c1)) (n, .inr (.inr (.inr (.inr g))))) _ _) = some (vp_cell (dA (10 + c1)) (n, .inr (.inr (.inr (.inr (va_up g i.toNatClampNeg (some v)))))))
        generalize dA (10 + c1) = cA
        have hu : updV (fun j => va_rf (g j)) i.toNatClampNeg (.ref v) = fun j => va_rf (va_up g i.toNatClampNeg (some v) j) := by
          funext q
          by_cases hq : q = i.toNatClampNeg
          · subst hq
            simp [updV, va_up, va_rf]
          · simp [updV, va_up, hq]
        rw [vp_cell_q, vp_cell_q, arrV_store, hu]
    · cases hg
  · cases hg
theorem tb_copy {h h' : tb_heap} {nx : Nat} {H : Heap} {locs : List Loc} {cells slots pc ix a b : Nat} {sp dp n : Int32} {lsR : Array Slot} {rest : List Value} (C0 : tb_Ctx D dA E p R s m args meth c d mm) (hls : lsR.size = tb_mL mm) (hI : tb_IV D dA E s h nx H locs) (hlk : tb_lk (tb_ow mm) ix = some (1004, false)) (hd : 0 < d) (hsm : tb_sm rest = true) (hg : tb_cp h a sp b dp n = some h') (hdg : decode (tb_by mm) pc = .ok (.invokestatic ix, 3))
    (kk : ∀ (H1 : Heap) (locs1 : List Loc), tb_IV D dA E s h' nx H1 locs1 → W p l e R s m args below meth c H1 locs1 cells slots Q (F0 m (pc + 3) lsR rest)) : W p l e R s m args below meth c H locs cells slots Q (F0 m pc lsR (.int n :: .int dp :: .ref b :: .int sp :: .ref a :: rest)) := by
  obtain ⟨hx, hb, hml, hown, hts, hlk0, hin, hE, hR1, hR2⟩ := C0
  unfold tb_cp at hg
  split at hg
  · rename_i t n0 f t' n1 g hx0 hx1
    split at hg
    · rename_i hc
      obtain ⟨rfl, ht2, h1, h2, h3, h4, h5⟩ := hc
      cases hg
      obtain ⟨-, hc0, w0⟩ := hI.1 a _ hx0
      obtain ⟨hbb, hc1, w1⟩ := hI.1 b _ hx1
      have hc0 : H[a]? = some (vp_cell (dA t) (n0, .inl f)) := hc0
      have hc1 : H[b]? = some (vp_cell (dA t) (n1, .inl g)) := hc1
      obtain ⟨j0, hj0⟩ := tb_lk_ok hlk
      have hl0 := (tb_k4s1004 _ hj0 rfl).2
      have hlink : (Cond.methodLink (tb_cn (tb_ow mm)) ix arraycopyName).before args s = true := hts _ (tb_bg (List.mem_of_getElem? hl0) rfl)
      have hnat : (Cond.native arraycopyName).before args s = true := hts _ (tb_bg (by decide +kernel) rfl)
      have hstat : (Cond.static arraycopyName).before args s = true := hts _ (tb_bg (by decide +kernel) rfl)
      have hini : (Cond.initialized "java/lang/System").before args s = true := hts _ (tb_bg (by decide +kernel) rfl)
      have nn : ∀ z : Int32, ¬ z < 0 → z.toInt = (z.toNatClampNeg : Int) := by
        intro z hz
        have hz0 : (0 : Int) ≤ z.toInt := by
          have := Int32.not_lt.mp hz
          simpa using Int32.le_iff_toInt_le.mp this
        show z.toInt = ((z.toInt.toNat : Nat) : Int)
        omega
      have hsm : (rest.map fun v => v.category).sum ≤ 8 := by simpa [tb_sm] using hsm
      intro T hT X
      have harr := (hE.1.2 t _ (tb_tys_get dA (by omega))).1
      obtain ⟨-, k0, hk0, cm0, hkk0⟩ := harr n0 (fun j => .int (f j))
      obtain ⟨-, k1, hk1, cm1, hkk1⟩ := harr n1 (fun j => .int (g j))
      have hprim : refKind (tb_aty t) = false := by rcases (by omega : t = 0 ∨ t = 1) with rfl | rfl <;> rfl
      have hfit : ∀ j, fits (tb_aty t) (.int (f j)) = true := by
        intro j
        rcases (by omega : t = 0 ∨ t = 1) with rfl | rfl
        · rfl
        · rcases w0.2 rfl j with z | z <;> (dsimp only at z; rw [z]; rfl)
      obtain ⟨vm', X', step⟩ := X.arraycopy hx hown hlink hnat hstat hini (src := a) (dst := b) (cs := vp_cell (dA t) (n0, .inl f)) (cd := vp_cell (dA t) (n1, .inl g)) (srcPos := sp) (destPos := dp) (n := n) (by rw [hT]; exact hc0) (by rw [hT]; exact hc1)
        (fun _ h => by cases h) (fun _ h => by cases h) (fun h => by cases h) (fun h => by cases h) hk0 hk1 hkk0 hkk1 (by simp [hprim]) h1 h2 h3
        (by rw [nn sp h1, nn n h3]; show ¬ _ > ((arrV (dA t) n0 (fun j => .int (f j))).slots.size : Int); rw [arrV_size]; omega)
        (by rw [nn dp h2, nn n h3]; show ¬ _ > ((arrV (dA t) n1 (fun j => .int (g j))).slots.size : Int); rw [arrV_size]; omega)
        (fun vm₁ _ i hi => by
          have e : (vp_cell (dA t) (n0, .inl f)).slots.getD (sp.toNatClampNeg + i) .null = .int (f (sp.toNatClampNeg + i)) := by
            show (arrV (dA t) n0 (fun j => .int (f j))).slots.getD _ _ = _
            rw [Array.getD_eq_getD_getElem?, arrV_read _ _ (by omega)]
            rfl
          rw [e]
          exact ⟨hfit _, trivial⟩)
        (g := F0 m pc lsR (.int n :: .int dp :: .ref b :: .int sp :: .ref a :: rest)) rfl (by rw [hml]; exact hls) (rest := rest) rfl (by rw [hb]; exact hdg) (by omega) (by show 2 * 0 + _ + (7 + 11) ≤ _; omega)
      have e1 : copied (vp_cell (dA t) (n0, .inl f)) (vp_cell (dA t) (n1, .inl g)) sp dp n = vp_cell (dA t) (n1, .inl (va_cpy f g sp.toNatClampNeg dp.toNatClampNeg n.toNatClampNeg)) := va_copied (fun z => .int z) (dA t) (dA t) f g h4
      rw [e1] at X' step
      have hlt : b < H.size := (Array.getElem?_eq_some_iff.mp hc1).1
      have hheap : ((T.setVm vm').setCell b (vp_cell (dA t) (n1, .inl (va_cpy f g sp.toNatClampNeg dp.toNatClampNeg n.toNatClampNeg)))).heap = H.setIfInBounds b (vp_cell (dA t) (n1, .inl (va_cpy f g sp.toNatClampNeg dp.toNatClampNeg n.toNatClampNeg))) := by rw [← hT]; rfl
      have oq : ∀ q : Nat, q ≠ b → (H.setIfInBounds b (vp_cell (dA t) (n1, .inl (va_cpy f g sp.toNatClampNeg dp.toNatClampNeg n.toNatClampNeg))))[q]? = H[q]? := fun q hq => by simp [Array.getElem?_setIfInBounds, Ne.symm hq]
      have hI' := hI
      obtain ⟨i1, i2, i3, i4⟩ := hI'
      have hw : tb_wf (.inr (.inl (t, n1, va_cpy f g sp.toNatClampNeg dp.toNatClampNeg n.toNatClampNeg))) := by
        refine ⟨w1.1, fun e j => ?_⟩
        show va_cpy f g _ _ _ j = 0 ∨ va_cpy f g _ _ _ j = 1
        unfold va_cpy
        split
        · exact w0.2 e _
        · exact w1.2 e j
      obtain ⟨t2, a1, b1⟩ := kk _ _ ⟨i1.up hbb (show (H.setIfInBounds b _)[b]? = some _ by simp [Array.getElem?_setIfInBounds, hlt]) hw (fun q _ _ hq => oq q hq), by simpa using i2, i3, ⟨by simp; exact i4.1, fun q g1 g2 => by
          rw [oq q (fun e => g2 (by rw [e]; exact hbb))]
          exact i4.2.1 q g1 g2, fun q hq => by
          rcases List.mem_append.mp hq with h | h
          · exact i4.2.2 q h
          · obtain ⟨z, -, hz⟩ := List.mem_map.mp h
            rw [← hz]
            exact hbb⟩⟩ _ hheap X'
      exact ⟨t2, step t2 a1, b1⟩
    · cases hg
  · cases hg
end TB1
