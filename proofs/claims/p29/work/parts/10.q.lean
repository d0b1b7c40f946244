/-! THE RULES, instruction by instruction -/
theorem tb_vok_z {x : Int32} (hx : x = nI 0 ∨ x = nI 1) : tb_vok .boolean (.int x) = true := by
  rcases hx with rfl | rfl <;> decide
theorem tb_vok_c {x : Int32} (hx : 0 ≤ x ∧ x < 65536) : tb_vok .char (.int x) = true := by
  simp [tb_vok, hx]
theorem tb_as_S {t : Nat} {av r : List Value} (hk : tb_kd t = 1) (hn : tb_na t = av.length) : tb_as t (av.reverse ++ r) = some (av, r) := by
  unfold tb_as
  rw [if_pos hk, hn, if_pos (by simp)]
  simp
theorem tb_as_V {t b : Nat} {as r : List Value} (hk : (tb_kd t == 1) = false) (hn : tb_na t = as.length) : tb_as t (as.reverse ++ .ref b :: r) = some (.ref b :: as, r) := by
  unfold tb_as
  rw [if_neg (by intro q; rw [q] at hk; cases hk), hn]
  have e : (as.reverse ++ Value.ref b :: r).drop as.length = .ref b :: r := by
    rw [List.drop_append_of_le_length (by simp)]
    simp
  rw [e]
  simp
section TBQ
variable {E : tb_env} {d m pc : Nat} {ls st : List Value} {h : tb_heap} {nx bc bs : Nat} {Q : Option Value → tb_heap → Nat → Prop}
theorem q_iconst {k : Int} {c : Int32} (hc : tb_cd m pc = some (.iconst k, 1)) (hv : Int32.ofInt k = c) : tb_wp E d m pc ls st h nx bc bs Q = tb_wp E d m (pc + 1) ls (.int c :: st) h nx bc bs Q := by subst hv; exact tb_q hc rfl rfl
theorem q_bipush {k : Int} {c : Int32} (hc : tb_cd m pc = some (.bipush k, 2)) (hv : (Int8.ofInt k).toInt32 = c) : tb_wp E d m pc ls st h nx bc bs Q = tb_wp E d m (pc + 2) ls (.int c :: st) h nx bc bs Q := by subst hv; exact tb_q hc rfl rfl
theorem q_sipush {k : Int} {c : Int32} (hc : tb_cd m pc = some (.sipush k, 3)) (hv : (Int16.ofInt k).toInt32 = c) : tb_wp E d m pc ls st h nx bc bs Q = tb_wp E d m (pc + 3) ls (.int c :: st) h nx bc bs Q := by subst hv; exact tb_q hc rfl rfl
theorem q_ldc {k : Nat} {c : Int32} (hc : tb_cd m pc = some (.ldc k, 2)) (hv : tb_kc (tb_ow m) k = some c) : tb_wp E d m pc ls st h nx bc bs Q = tb_wp E d m (pc + 2) ls (.int c :: st) h nx bc bs Q := by
  refine tb_q (z := (pc + 2, ls, .int c :: st, h, nx, bc, bs)) hc rfl ?_
  show Option.bind (tb_kc (tb_ow m) k) _ = _
  rw [hv]; rfl
theorem q_iload {k : Nat} {x : Int32} (hc : tb_cd m pc = some (.iload k, 2)) (hl : ls[k]? = some (.int x)) : tb_wp E d m pc ls st h nx bc bs Q = tb_wp E d m (pc + 2) ls (.int x :: st) h nx bc bs Q := by
  refine tb_q (z := (pc + 2, ls, .int x :: st, h, nx, bc, bs)) hc rfl ?_
  simp only [tb_stp1, hl]
theorem q_iload_n {k : Fin 4} {x : Int32} (hc : tb_cd m pc = some (.iload_n k, 1)) (hl : ls[k.val]? = some (.int x)) : tb_wp E d m pc ls st h nx bc bs Q = tb_wp E d m (pc + 1) ls (.int x :: st) h nx bc bs Q := by
  refine tb_q (z := (pc + 1, ls, .int x :: st, h, nx, bc, bs)) hc rfl ?_
  simp only [tb_stp1, hl]
theorem q_aload {k : Nat} {x : Nat} (hc : tb_cd m pc = some (.aload k, 2)) (hl : ls[k]? = some (.ref x)) : tb_wp E d m pc ls st h nx bc bs Q = tb_wp E d m (pc + 2) ls (.ref x :: st) h nx bc bs Q := by
  refine tb_q (z := (pc + 2, ls, .ref x :: st, h, nx, bc, bs)) hc rfl ?_
  simp only [tb_stp1, hl]
theorem q_aload_n {k : Fin 4} {x : Nat} (hc : tb_cd m pc = some (.aload_n k, 1)) (hl : ls[k.val]? = some (.ref x)) : tb_wp E d m pc ls st h nx bc bs Q = tb_wp E d m (pc + 1) ls (.ref x :: st) h nx bc bs Q := by
  refine tb_q (z := (pc + 1, ls, .ref x :: st, h, nx, bc, bs)) hc rfl ?_
  simp only [tb_stp1, hl]
theorem tb_lts {ls : List Value} {k : Nat} (hl : (ls[k]?).isSome = true) : k < ls.length := by
  rcases Nat.lt_or_ge k ls.length with q | q
  · exact q
  · rw [List.getElem?_eq_none q] at hl; cases hl
theorem q_istore {k : Nat} {x : Int32} (hc : tb_cd m pc = some (.istore k, 2)) (hl : (ls[k]?).isSome = true) : tb_wp E d m pc ls (.int x :: st) h nx bc bs Q = tb_wp E d m (pc + 2) (ls.set k (.int x)) st h nx bc bs Q := by
  refine tb_q (z := (pc + 2, ls.set k (.int x), st, h, nx, bc, bs)) hc rfl ?_
  simp only [tb_stp1, tb_lts hl, if_true]
theorem q_istore_n {k : Fin 4} {x : Int32} (hc : tb_cd m pc = some (.istore_n k, 1)) (hl : (ls[k.val]?).isSome = true) : tb_wp E d m pc ls (.int x :: st) h nx bc bs Q = tb_wp E d m (pc + 1) (ls.set k.val (.int x)) st h nx bc bs Q := by
  refine tb_q (z := (pc + 1, ls.set k.val (.int x), st, h, nx, bc, bs)) hc rfl ?_
  simp only [tb_stp1, tb_lts hl, if_true]
theorem q_astore {k : Nat} {x : Nat} (hc : tb_cd m pc = some (.astore k, 2)) (hl : (ls[k]?).isSome = true) : tb_wp E d m pc ls (.ref x :: st) h nx bc bs Q = tb_wp E d m (pc + 2) (ls.set k (.ref x)) st h nx bc bs Q := by
  refine tb_q (z := (pc + 2, ls.set k (.ref x), st, h, nx, bc, bs)) hc rfl ?_
  simp only [tb_stp1, tb_lts hl, if_true]
theorem q_astore_n {k : Fin 4} {x : Nat} (hc : tb_cd m pc = some (.astore_n k, 1)) (hl : (ls[k.val]?).isSome = true) : tb_wp E d m pc ls (.ref x :: st) h nx bc bs Q = tb_wp E d m (pc + 1) (ls.set k.val (.ref x)) st h nx bc bs Q := by
  refine tb_q (z := (pc + 1, ls.set k.val (.ref x), st, h, nx, bc, bs)) hc rfl ?_
  simp only [tb_stp1, tb_lts hl, if_true]
theorem q_iinc {k : Nat} {n : Int} {x c : Int32} (hc : tb_cd m pc = some (.iinc k n, 3)) (hl : ls[k]? = some (.int x)) (hv : Int32.ofInt n = c) : tb_wp E d m pc ls st h nx bc bs Q = tb_wp E d m (pc + 3) (ls.set k (.int (x + c))) st h nx bc bs Q := by
  subst hv
  refine tb_q (z := (pc + 3, ls.set k (.int (x + Int32.ofInt n)), st, h, nx, bc, bs)) hc rfl ?_
  simp only [tb_stp1, hl]
theorem q_dupi {x : Int32} (hc : tb_cd m pc = some (.dup, 1)) : tb_wp E d m pc ls (.int x :: st) h nx bc bs Q = tb_wp E d m (pc + 1) ls (.int x :: .int x :: st) h nx bc bs Q := tb_q (z := (pc + 1, ls, (.int x :: .int x :: st), h, nx, bc, bs)) hc rfl rfl
theorem q_dupr {x : Nat} (hc : tb_cd m pc = some (.dup, 1)) : tb_wp E d m pc ls (.ref x :: st) h nx bc bs Q = tb_wp E d m (pc + 1) ls (.ref x :: .ref x :: st) h nx bc bs Q := tb_q (z := (pc + 1, ls, (.ref x :: .ref x :: st), h, nx, bc, bs)) hc rfl rfl
theorem q_dup2 {x : Int32} {y : Nat} (hc : tb_cd m pc = some (.dup2, 1)) : tb_wp E d m pc ls (.int x :: .ref y :: st) h nx bc bs Q = tb_wp E d m (pc + 1) ls (.int x :: .ref y :: .int x :: .ref y :: st) h nx bc bs Q := tb_q (z := (pc + 1, ls, (.int x :: .ref y :: .int x :: .ref y :: st), h, nx, bc, bs)) hc rfl rfl
theorem q_pop {x : Int32} (hc : tb_cd m pc = some (.pop, 1)) : tb_wp E d m pc ls (.int x :: st) h nx bc bs Q = tb_wp E d m (pc + 1) ls st h nx bc bs Q := tb_q (z := (pc + 1, ls, st, h, nx, bc, bs)) hc rfl rfl
theorem q_iadd {x y : Int32} (hc : tb_cd m pc = some (.iadd, 1)) : tb_wp E d m pc ls (.int y :: .int x :: st) h nx bc bs Q = tb_wp E d m (pc + 1) ls (.int (x + y) :: st) h nx bc bs Q := tb_q (z := (pc + 1, ls, (.int (x + y) :: st), h, nx, bc, bs)) hc rfl rfl
theorem q_isub {x y : Int32} (hc : tb_cd m pc = some (.isub, 1)) : tb_wp E d m pc ls (.int y :: .int x :: st) h nx bc bs Q = tb_wp E d m (pc + 1) ls (.int (x - y) :: st) h nx bc bs Q := tb_q (z := (pc + 1, ls, (.int (x - y) :: st), h, nx, bc, bs)) hc rfl rfl
theorem q_imul {x y : Int32} (hc : tb_cd m pc = some (.imul, 1)) : tb_wp E d m pc ls (.int y :: .int x :: st) h nx bc bs Q = tb_wp E d m (pc + 1) ls (.int (x * y) :: st) h nx bc bs Q := tb_q (z := (pc + 1, ls, (.int (x * y) :: st), h, nx, bc, bs)) hc rfl rfl
theorem q_iand {x y : Int32} (hc : tb_cd m pc = some (.iand, 1)) : tb_wp E d m pc ls (.int y :: .int x :: st) h nx bc bs Q = tb_wp E d m (pc + 1) ls (.int (x &&& y) :: st) h nx bc bs Q := tb_q (z := (pc + 1, ls, (.int (x &&& y) :: st), h, nx, bc, bs)) hc rfl rfl
theorem q_ishr {x y : Int32} (hc : tb_cd m pc = some (.ishr, 1)) : tb_wp E d m pc ls (.int y :: .int x :: st) h nx bc bs Q = tb_wp E d m (pc + 1) ls (.int (x >>> (y &&& 31)) :: st) h nx bc bs Q := tb_q (z := (pc + 1, ls, (.int (x >>> (y &&& 31)) :: st), h, nx, bc, bs)) hc rfl rfl
theorem q_idiv {x y : Int32} (hc : tb_cd m pc = some (.idiv, 1)) (hy : ¬ y = 0) : tb_wp E d m pc ls (.int y :: .int x :: st) h nx bc bs Q = tb_wp E d m (pc + 1) ls (.int (x / y) :: st) h nx bc bs Q := by
  refine tb_q (z := (pc + 1, ls, .int (x / y) :: st, h, nx, bc, bs)) hc rfl ?_
  simp only [tb_stp1, hy, if_false]
theorem q_irem {x y : Int32} (hc : tb_cd m pc = some (.irem, 1)) (hy : ¬ y = 0) : tb_wp E d m pc ls (.int y :: .int x :: st) h nx bc bs Q = tb_wp E d m (pc + 1) ls (.int (x - x / y * y) :: st) h nx bc bs Q := by
  refine tb_q (z := (pc + 1, ls, .int (x - x / y * y) :: st, h, nx, bc, bs)) hc rfl ?_
  simp only [tb_stp1, hy, if_false]
theorem q_i2c {x : Int32} (hc : tb_cd m pc = some (.i2c, 1)) : tb_wp E d m pc ls (.int x :: st) h nx bc bs Q = tb_wp E d m (pc + 1) ls (.int (x.toUInt32 % 65536).toInt32 :: st) h nx bc bs Q := tb_q (z := (pc + 1, ls, (.int (x.toUInt32 % 65536).toInt32 :: st), h, nx, bc, bs)) hc rfl rfl
theorem q_getfield {ix ci k a : Nat} (hc : tb_cd m pc = some (.getfield ix, 3)) (hf : tb_fl (tb_ow m) ix = some (ci, k)) : tb_wp E d m pc ls (.ref a :: st) h nx bc bs Q = tb_wF (tb_gf h a ci k) (fun v => tb_wp E d m (pc + 3) ls (v :: st) h nx bc bs Q) := by
  refine tb_qF (g := fun v => (pc + 3, ls, v :: st, h, nx, bc, bs)) hc rfl ?_
  simp only [tb_stp1, hf, Option.bind_some]
theorem q_putfield {ix ci k a : Nat} {v : Value} (hc : tb_cd m pc = some (.putfield ix, 3)) (hf : tb_fl (tb_ow m) ix = some (ci, k)) (hv : tb_vok (tb_T ci k) v = true) (hk : ((tb_F ci k).2.2.2 = false ∨ (tb_kd m = 2 ∧ tb_ow m = ci))) : tb_wp E d m pc ls (v :: .ref a :: st) h nx bc bs Q = tb_wF (tb_pf h a ci k v) (fun h' => tb_wp E d m (pc + 3) ls st h' nx bc bs Q) := by
  refine tb_qF (g := fun h' => (pc + 3, ls, st, h', nx, bc, bs)) hc rfl ?_
  simp only [tb_stp1, hf, Option.bind_some]
  rw [if_pos ⟨hv, hk⟩]
theorem q_getstatic {ix k : Nat} (hc : tb_cd m pc = some (.getstatic ix, 3)) (hf : tb_sl (tb_ow m) ix = some k) : tb_wp E d m pc ls st h nx bc bs Q = tb_wp E d m (pc + 3) ls (.ref (E.1 k) :: st) h nx bc bs Q := by
  refine tb_q (z := (pc + 3, ls, .ref (E.1 k) :: st, h, nx, bc, bs)) hc rfl ?_
  simp only [tb_stp1, hf, Option.bind_some]
theorem q_iaload {i : Int32} {a : Nat} (hc : tb_cd m pc = some (.iaload, 1)) : tb_wp E d m pc ls (.int i :: .ref a :: st) h nx bc bs Q = tb_wF (tb_ld E h 0 a i) (fun x => tb_wp E d m (pc + 1) ls (.int x :: st) h nx bc bs Q) := tb_qF (g := fun x => (pc + 1, ls, .int x :: st, h, nx, bc, bs)) hc rfl rfl
theorem q_baload {i : Int32} {a : Nat} (hc : tb_cd m pc = some (.baload, 1)) : tb_wp E d m pc ls (.int i :: .ref a :: st) h nx bc bs Q = tb_wF (tb_ld E h 1 a i) (fun x => tb_wp E d m (pc + 1) ls (.int x :: st) h nx bc bs Q) := tb_qF (g := fun x => (pc + 1, ls, .int x :: st, h, nx, bc, bs)) hc rfl rfl
theorem q_caload {i : Int32} {a : Nat} (hc : tb_cd m pc = some (.caload, 1)) : tb_wp E d m pc ls (.int i :: .ref a :: st) h nx bc bs Q = tb_wF (tb_ld E h 2 a i) (fun x => tb_wp E d m (pc + 1) ls (.int x :: st) h nx bc bs Q) := tb_qF (g := fun x => (pc + 1, ls, .int x :: st, h, nx, bc, bs)) hc rfl rfl
theorem q_aaload {i : Int32} {a : Nat} (hc : tb_cd m pc = some (.aaload, 1)) : tb_wp E d m pc ls (.int i :: .ref a :: st) h nx bc bs Q = tb_wF (tb_ald h a i) (fun x => tb_wp E d m (pc + 1) ls (.ref x :: st) h nx bc bs Q) := tb_qF (g := fun x => (pc + 1, ls, .ref x :: st, h, nx, bc, bs)) hc rfl rfl
theorem q_iastore {i x : Int32} {a : Nat} (hc : tb_cd m pc = some (.iastore, 1)) : tb_wp E d m pc ls (.int x :: .int i :: .ref a :: st) h nx bc bs Q = tb_wF (tb_stv h 0 a i x) (fun h' => tb_wp E d m (pc + 1) ls st h' nx bc bs Q) := tb_qF (g := fun h' => (pc + 1, ls, st, h', nx, bc, bs)) hc rfl rfl
theorem q_bastore {i x : Int32} {a : Nat} (hc : tb_cd m pc = some (.bastore, 1)) (hx : x = nI 0 ∨ x = nI 1) : tb_wp E d m pc ls (.int x :: .int i :: .ref a :: st) h nx bc bs Q = tb_wF (tb_stv h 1 a i x) (fun h' => tb_wp E d m (pc + 1) ls st h' nx bc bs Q) := by
  refine tb_qF (g := fun h' => (pc + 1, ls, st, h', nx, bc, bs)) hc rfl ?_
  simp only [tb_stp1]
  rw [if_pos (by rcases hx with rfl | rfl <;> decide)]
theorem q_castore {i x : Int32} {a : Nat} (hc : tb_cd m pc = some (.castore, 1)) (hx : 0 ≤ x ∧ x < 65536) : tb_wp E d m pc ls (.int x :: .int i :: .ref a :: st) h nx bc bs Q = tb_wF (tb_stv h 2 a i x) (fun h' => tb_wp E d m (pc + 1) ls st h' nx bc bs Q) := by
  refine tb_qF (g := fun h' => (pc + 1, ls, st, h', nx, bc, bs)) hc rfl ?_
  simp only [tb_stp1]
  rw [if_pos hx]
theorem q_aastore {i : Int32} {a v : Nat} (hc : tb_cd m pc = some (.aastore, 1)) : tb_wp E d m pc ls (.ref v :: .int i :: .ref a :: st) h nx bc bs Q = tb_wF (tb_ast h a i v) (fun h' => tb_wp E d m (pc + 1) ls st h' nx bc bs Q) := tb_qF (g := fun h' => (pc + 1, ls, st, h', nx, bc, bs)) hc rfl rfl
theorem q_alen {a : Nat} (hc : tb_cd m pc = some (.arraylength, 1)) : tb_wp E d m pc ls (.ref a :: st) h nx bc bs Q = tb_wF (tb_ra E h 0 a) (fun q : Nat × (Nat → Int32) => tb_wp E d m (pc + 1) ls (.int (nI q.1) :: st) h nx bc bs Q) := tb_qF (g := fun q : Nat × (Nat → Int32) => (pc + 1, ls, .int (Int32.ofNat q.1) :: st, h, nx, bc, bs)) hc rfl rfl
theorem q_new {ix ci n : Nat} {fs : List Value} (hc : tb_cd m pc = some (.new ix, 3)) (hf : tb_cl (tb_ow m) ix = some ci) (hn : tb_nF ci = n) (hfs : tb_df ci = fs) (h1 : 1 ≤ bc) (h2 : n ≤ bs) : tb_wp E d m pc ls st h nx bc bs Q = tb_wp E d m (pc + 3) ls (.ref nx :: st) (tb_up h nx (.inl (ci, fs))) (nx + 1) (bc - 1) (bs - n) Q := by
  subst hn; subst hfs
  refine tb_q (z := (pc + 3, ls, .ref nx :: st, tb_up h nx (.inl (ci, tb_df ci)), nx + 1, bc - 1, bs - tb_nF ci)) hc rfl ?_
  simp only [tb_stp1, hf, Option.bind_some]
  rw [if_pos ⟨h1, h2⟩]
theorem q_newa {t : ArrayType} {ty n : Nat} (hc : tb_cd m pc = some (.newarray t, 2)) (ht : (t = .int ∧ ty = 0) ∨ (t = .boolean ∧ ty = 1) ∨ (t = .char ∧ ty = 2)) (hn : n ≤ 100000) (h1 : 1 ≤ bc) (h2 : n ≤ bs) : tb_wp E d m pc ls (.int (nI n) :: st) h nx bc bs Q = tb_wp E d m (pc + 2) ls (.ref nx :: st) (tb_up h nx (.inr (.inl (ty, n, fun _ => 0)))) (nx + 1) (bc - 1) (bs - n) Q := by
  have hcl : (nI n).toNatClampNeg = n := nI_clamp (by omega)
  refine tb_q (z := (pc + 2, ls, .ref nx :: st, tb_up h nx (.inr (.inl (ty, n, fun _ => 0))), nx + 1, bc - 1, bs - n)) hc rfl ?_
  rcases ht with ⟨rfl, rfl⟩ | ⟨rfl, rfl⟩ | ⟨rfl, rfl⟩ <;>
  · simp only [tb_stp1, Option.bind_some, hcl]
    rw [if_pos ⟨nI_pos (by omega), hn, h1, h2⟩]
theorem q_anewa {ix ci n : Nat} (hc : tb_cd m pc = some (.anewarray ix, 3)) (hf : tb_cl (tb_ow m) ix = some ci) (hci : ci = 0 ∨ ci = 4) (hn : n ≤ 100000) (h1 : 1 ≤ bc) (h2 : n ≤ bs) : tb_wp E d m pc ls (.int (nI n) :: st) h nx bc bs Q = tb_wp E d m (pc + 3) ls (.ref nx :: st) (tb_up h nx (.inr (.inr (ci, n, fun _ => none)))) (nx + 1) (bc - 1) (bs - n) Q := by
  have hcl : (nI n).toNatClampNeg = n := nI_clamp (by omega)
  refine tb_q (z := (pc + 3, ls, .ref nx :: st, tb_up h nx (.inr (.inr (ci, n, fun _ => none))), nx + 1, bc - 1, bs - n)) hc rfl ?_
  simp only [tb_stp1, hf, Option.bind_some, hcl]
  rw [if_pos ⟨hci, nI_pos (by omega), hn, h1, h2⟩]
theorem q_goto {off : Int} {t : Nat} (hc : tb_cd m pc = some (.goto off, 3)) (ht : tb_tg pc off = some t) : tb_wp E d m pc ls st h nx bc bs Q = tb_wp E d m t ls st h nx bc bs Q := by
  refine tb_q (z := (t, ls, st, h, nx, bc, bs)) hc rfl ?_
  simp only [tb_stp1, ht, Option.bind_some]
theorem q_icmp_eq {off : Int} {t : Nat} {x y : Int32} (hc : tb_cd m pc = some (.if_icmp .eq off, 3)) (ht : tb_tg pc off = some t) : tb_wp E d m pc ls (.int y :: .int x :: st) h nx bc bs Q = if x = y then tb_wp E d m t ls st h nx bc bs Q else tb_wp E d m (pc + 3) ls st h nx bc bs Q := by
  refine tb_qB (c := tb_cnd .eq x y) hc rfl ?_ ?_
  · simp only [tb_stp1, ht, Option.bind_some]
  · simp [tb_cnd]
theorem q_if_eq {off : Int} {t : Nat} {x : Int32} (hc : tb_cd m pc = some (.ifCond .eq off, 3)) (ht : tb_tg pc off = some t) : tb_wp E d m pc ls (.int x :: st) h nx bc bs Q = if x = 0 then tb_wp E d m t ls st h nx bc bs Q else tb_wp E d m (pc + 3) ls st h nx bc bs Q := by
  refine tb_qB (c := tb_cnd .eq x 0) hc rfl ?_ ?_
  · simp only [tb_stp1, ht, Option.bind_some]
  · simp [tb_cnd]
theorem q_icmp_ne {off : Int} {t : Nat} {x y : Int32} (hc : tb_cd m pc = some (.if_icmp .ne off, 3)) (ht : tb_tg pc off = some t) : tb_wp E d m pc ls (.int y :: .int x :: st) h nx bc bs Q = if ¬ x = y then tb_wp E d m t ls st h nx bc bs Q else tb_wp E d m (pc + 3) ls st h nx bc bs Q := by
  refine tb_qB (c := tb_cnd .ne x y) hc rfl ?_ ?_
  · simp only [tb_stp1, ht, Option.bind_some]
  · simp [tb_cnd]
theorem q_if_ne {off : Int} {t : Nat} {x : Int32} (hc : tb_cd m pc = some (.ifCond .ne off, 3)) (ht : tb_tg pc off = some t) : tb_wp E d m pc ls (.int x :: st) h nx bc bs Q = if ¬ x = 0 then tb_wp E d m t ls st h nx bc bs Q else tb_wp E d m (pc + 3) ls st h nx bc bs Q := by
  refine tb_qB (c := tb_cnd .ne x 0) hc rfl ?_ ?_
  · simp only [tb_stp1, ht, Option.bind_some]
  · simp [tb_cnd]
theorem q_icmp_lt {off : Int} {t : Nat} {x y : Int32} (hc : tb_cd m pc = some (.if_icmp .lt off, 3)) (ht : tb_tg pc off = some t) : tb_wp E d m pc ls (.int y :: .int x :: st) h nx bc bs Q = if x < y then tb_wp E d m t ls st h nx bc bs Q else tb_wp E d m (pc + 3) ls st h nx bc bs Q := by
  refine tb_qB (c := tb_cnd .lt x y) hc rfl ?_ ?_
  · simp only [tb_stp1, ht, Option.bind_some]
  · simp [tb_cnd]
theorem q_if_lt {off : Int} {t : Nat} {x : Int32} (hc : tb_cd m pc = some (.ifCond .lt off, 3)) (ht : tb_tg pc off = some t) : tb_wp E d m pc ls (.int x :: st) h nx bc bs Q = if x < 0 then tb_wp E d m t ls st h nx bc bs Q else tb_wp E d m (pc + 3) ls st h nx bc bs Q := by
  refine tb_qB (c := tb_cnd .lt x 0) hc rfl ?_ ?_
  · simp only [tb_stp1, ht, Option.bind_some]
  · simp [tb_cnd]
theorem q_icmp_ge {off : Int} {t : Nat} {x y : Int32} (hc : tb_cd m pc = some (.if_icmp .ge off, 3)) (ht : tb_tg pc off = some t) : tb_wp E d m pc ls (.int y :: .int x :: st) h nx bc bs Q = if y ≤ x then tb_wp E d m t ls st h nx bc bs Q else tb_wp E d m (pc + 3) ls st h nx bc bs Q := by
  refine tb_qB (c := tb_cnd .ge x y) hc rfl ?_ ?_
  · simp only [tb_stp1, ht, Option.bind_some]
  · simp [tb_cnd]
theorem q_if_ge {off : Int} {t : Nat} {x : Int32} (hc : tb_cd m pc = some (.ifCond .ge off, 3)) (ht : tb_tg pc off = some t) : tb_wp E d m pc ls (.int x :: st) h nx bc bs Q = if 0 ≤ x then tb_wp E d m t ls st h nx bc bs Q else tb_wp E d m (pc + 3) ls st h nx bc bs Q := by
  refine tb_qB (c := tb_cnd .ge x 0) hc rfl ?_ ?_
  · simp only [tb_stp1, ht, Option.bind_some]
  · simp [tb_cnd]
theorem q_icmp_gt {off : Int} {t : Nat} {x y : Int32} (hc : tb_cd m pc = some (.if_icmp .gt off, 3)) (ht : tb_tg pc off = some t) : tb_wp E d m pc ls (.int y :: .int x :: st) h nx bc bs Q = if y < x then tb_wp E d m t ls st h nx bc bs Q else tb_wp E d m (pc + 3) ls st h nx bc bs Q := by
  refine tb_qB (c := tb_cnd .gt x y) hc rfl ?_ ?_
  · simp only [tb_stp1, ht, Option.bind_some]
  · simp [tb_cnd]
theorem q_if_gt {off : Int} {t : Nat} {x : Int32} (hc : tb_cd m pc = some (.ifCond .gt off, 3)) (ht : tb_tg pc off = some t) : tb_wp E d m pc ls (.int x :: st) h nx bc bs Q = if 0 < x then tb_wp E d m t ls st h nx bc bs Q else tb_wp E d m (pc + 3) ls st h nx bc bs Q := by
  refine tb_qB (c := tb_cnd .gt x 0) hc rfl ?_ ?_
  · simp only [tb_stp1, ht, Option.bind_some]
  · simp [tb_cnd]
theorem q_icmp_le {off : Int} {t : Nat} {x y : Int32} (hc : tb_cd m pc = some (.if_icmp .le off, 3)) (ht : tb_tg pc off = some t) : tb_wp E d m pc ls (.int y :: .int x :: st) h nx bc bs Q = if x ≤ y then tb_wp E d m t ls st h nx bc bs Q else tb_wp E d m (pc + 3) ls st h nx bc bs Q := by
  refine tb_qB (c := tb_cnd .le x y) hc rfl ?_ ?_
  · simp only [tb_stp1, ht, Option.bind_some]
  · simp [tb_cnd]
theorem q_if_le {off : Int} {t : Nat} {x : Int32} (hc : tb_cd m pc = some (.ifCond .le off, 3)) (ht : tb_tg pc off = some t) : tb_wp E d m pc ls (.int x :: st) h nx bc bs Q = if x ≤ 0 then tb_wp E d m t ls st h nx bc bs Q else tb_wp E d m (pc + 3) ls st h nx bc bs Q := by
  refine tb_qB (c := tb_cnd .le x 0) hc rfl ?_ ?_
  · simp only [tb_stp1, ht, Option.bind_some]
  · simp [tb_cnd]
theorem q_tsin {df hi o : Int} {offs : Array Int} {n t j : Nat} (hc : tb_cd m pc = some (.tableswitch df 0 hi offs, n)) (hj : (j : Int) ≤ hi) (hj2 : j < 2 ^ 31) (ho : offs[j]? = some o) (ht : tb_tg pc o = some t) : tb_wp E d m pc ls (.int (nI j) :: st) h nx bc bs Q = tb_wp E d m t ls st h nx bc bs Q := by
  have e1 : (nI j).toInt = (j : Int) := nI_toInt hj2
  refine tb_q (z := (t, ls, st, h, nx, bc, bs)) hc (by simp [tb_pl, tb_len]) ?_
  simp only [tb_stp1, e1]
  rw [if_neg (by omega)]
  have e2 : ((j : Int) - 0).toNat = j := by omega
  simp only [e2, ho, ht, Option.bind_some]
theorem q_tsout {df hi : Int} {offs : Array Int} {n t : Nat} {x : Int32} (hc : tb_cd m pc = some (.tableswitch df 0 hi offs, n)) (hx : x.toInt < 0 ∨ hi < x.toInt) (ht : tb_tg pc df = some t) : tb_wp E d m pc ls (.int x :: st) h nx bc bs Q = tb_wp E d m t ls st h nx bc bs Q := by
  refine tb_q (z := (t, ls, st, h, nx, bc, bs)) hc (by simp [tb_pl, tb_len]) ?_
  simp only [tb_stp1]
  rw [if_pos hx]
  simp only [ht, Option.bind_some]
theorem q_lsw {df o : Int} {ps : Array (Int × Int)} {n t : Nat} {x : Int32} (hc : tb_cd m pc = some (.lookupswitch df ps, n)) (hp : (ps.toList.zip (ps.toList.drop 1)).all (fun (a, next) => a.1 < next.1) = true) (ho : Op.lookupswitch.offset ps.toList df x.toInt = o) (ht : tb_tg pc o = some t) : tb_wp E d m pc ls (.int x :: st) h nx bc bs Q = tb_wp E d m t ls st h nx bc bs Q := by
  refine tb_q (z := (t, ls, st, h, nx, bc, bs)) hc (by simp [tb_pl, tb_len]) ?_
  simp only [tb_stp1]
  rw [if_pos hp]
  simp only [ho, ht, Option.bind_some]
theorem q_oinit {ix a : Nat} (hc : tb_cd m pc = some (.invokespecial ix, 3)) (hl : tb_lk (tb_ow m) ix = some (1001, false)) (hd : 0 < d) (hs : tb_sm st = true) : tb_wp E d m pc ls (.ref a :: st) h nx bc bs Q = tb_wp E d m (pc + 3) ls st h nx bc bs Q := by
  refine tb_q (z := (pc + 3, ls, st, h, nx, bc, bs)) hc (by simp [tb_pl, tb_len, hl]) ?_
  simp only [tb_stp1]
  rw [if_pos ⟨hl, hd, hs⟩]
theorem q_max {ix : Nat} {x y : Int32} (hc : tb_cd m pc = some (.invokestatic ix, 3)) (hl : tb_lk (tb_ow m) ix = some (1002, false)) (hd : 0 < d) (hs : tb_sm st = true) : tb_wp E d m pc ls (.int y :: .int x :: st) h nx bc bs Q = tb_wp E d m (pc + 3) ls (.int (if x < y then y else x) :: st) h nx bc bs Q := by
  refine tb_q (z := (pc + 3, ls, .int (if x < y then y else x) :: st, h, nx, bc, bs)) hc (by simp [tb_pl, tb_len, hl]) ?_
  simp only [tb_stp1, hl]
  rw [if_pos ⟨hd, hs⟩]
theorem q_min {ix : Nat} {x y : Int32} (hc : tb_cd m pc = some (.invokestatic ix, 3)) (hl : tb_lk (tb_ow m) ix = some (1003, false)) (hd : 0 < d) (hs : tb_sm st = true) : tb_wp E d m pc ls (.int y :: .int x :: st) h nx bc bs Q = tb_wp E d m (pc + 3) ls (.int (if y < x then y else x) :: st) h nx bc bs Q := by
  refine tb_q (z := (pc + 3, ls, .int (if y < x then y else x) :: st, h, nx, bc, bs)) hc (by simp [tb_pl, tb_len, hl]) ?_
  simp only [tb_stp1, hl]
  rw [if_pos ⟨hd, hs⟩]
theorem q_copy {ix a b : Nat} {n dp sp : Int32} (hc : tb_cd m pc = some (.invokestatic ix, 3)) (hl : tb_lk (tb_ow m) ix = some (1004, false)) (hd : 0 < d) (hs : tb_sm st = true) : tb_wp E d m pc ls (.int n :: .int dp :: .ref b :: .int sp :: .ref a :: st) h nx bc bs Q = tb_wF (tb_cp h a sp b dp n) (fun h' => tb_wp E d m (pc + 3) ls st h' nx bc bs Q) := by
  refine tb_qF (g := fun h' => (pc + 3, ls, st, h', nx, bc, bs)) hc (by simp [tb_pl, tb_len, hl]) ?_
  simp only [tb_stp1, hl]
  rw [if_pos ⟨hd, hs⟩]
end TBQ
