/-! RUNS OF THE MINI MACHINE AS EQUATIONS -/
section TBW
variable {E : tb_env} {d m pc : Nat} {ls st : List Value} {h : tb_heap} {nx bc bs : Nat} {Q : Option Value → tb_heap → Nat → Prop}
theorem tb_run_s (E : tb_env) (f d m pc : Nat) (ls st : List Value) (h : tb_heap) (nx bc bs : Nat) : tb_run E (f + 1) d m pc ls st h nx bc bs =
    match tb_re m pc st with
    | some v => some (v, h, nx)
    | none => match tb_iv m pc with
      | some q => match tb_as q.1 st with
        | some w => if tb_ck d q.1 w.1 w.2 h bc bs = true then (match tb_run E f (d - 1) q.1 0 (tb_ent q.1 w.1) [] h nx (tb_mc q.1) (tb_ms q.1) with
          | some z => tb_run E f d m (pc + 3) ls (z.1.toList ++ w.2) z.2.1 z.2.2 (bc - tb_mc q.1) (bs - tb_ms q.1)
          | none => none) else none
        | none => none
      | none => match tb_stp E d m pc ls st h nx bc bs with
        | some z => tb_run E f d m z.1 z.2.1 z.2.2.1 z.2.2.2.1 z.2.2.2.2.1 z.2.2.2.2.2.1 z.2.2.2.2.2.2
        | none => none := by
  rw [tb_run.eq_2]
  cases tb_re m pc st with
  | some v => rfl
  | none =>
    dsimp only
    cases tb_iv m pc with
    | none =>
      dsimp only
      cases tb_stp E d m pc ls st h nx bc bs with
      | none => rfl
      | some z => rfl
    | some q =>
      dsimp only
      cases tb_as q.1 st with
      | none => rfl
      | some w =>
        dsimp only
        by_cases hck : tb_ck d q.1 w.1 w.2 h bc bs = true
        · rw [if_pos hck, if_pos hck]
          cases tb_run E f (d - 1) q.1 0 (tb_ent q.1 w.1) [] h nx (tb_mc q.1) (tb_ms q.1) with
          | none => rfl
          | some z => rfl
        · rw [if_neg hck, if_neg hck]
theorem tb_mono1 (E : tb_env) : ∀ (f d m pc : Nat) (ls st : List Value) (h : tb_heap) (nx bc bs : Nat) (z : Option Value × tb_heap × Nat), tb_run E f d m pc ls st h nx bc bs = some z → tb_run E (f + 1) d m pc ls st h nx bc bs = some z := by
  intro f
  induction f with
  | zero => intro d m pc ls st h nx bc bs z hz; cases hz
  | succ f ih =>
    intro d m pc ls st h nx bc bs z hz
    rw [tb_run_s] at hz ⊢
    cases hre : tb_re m pc st with
    | some v => rw [hre] at hz; exact hz
    | none =>
      rw [hre] at hz
      dsimp only at hz ⊢
      cases hiv : tb_iv m pc with
      | some q =>
        rw [hiv] at hz
        dsimp only at hz ⊢
        cases has : tb_as q.1 st with
        | none => rw [has] at hz; cases hz
        | some w =>
          rw [has] at hz
          dsimp only at hz ⊢
          by_cases hck : tb_ck d q.1 w.1 w.2 h bc bs = true
          · rw [if_pos hck] at hz ⊢
            cases hr : tb_run E f (d - 1) q.1 0 (tb_ent q.1 w.1) [] h nx (tb_mc q.1) (tb_ms q.1) with
            | none => rw [hr] at hz; cases hz
            | some z1 =>
              rw [hr] at hz
              rw [ih _ _ _ _ _ _ _ _ _ _ hr]
              exact ih _ _ _ _ _ _ _ _ _ _ hz
          · rw [if_neg hck] at hz; cases hz
      | none =>
        rw [hiv] at hz
        dsimp only at hz ⊢
        cases hs : tb_stp E d m pc ls st h nx bc bs with
        | none => rw [hs] at hz; cases hz
        | some z1 =>
          rw [hs] at hz
          exact ih _ _ _ _ _ _ _ _ _ _ hz
theorem tb_mono {f g : Nat} (hfg : f ≤ g) {z : Option Value × tb_heap × Nat} (hz : tb_run E f d m pc ls st h nx bc bs = some z) : tb_run E g d m pc ls st h nx bc bs = some z := by
  induction hfg with
  | refl => exact hz
  | step _ ih => exact tb_mono1 E _ _ _ _ _ _ _ _ _ _ _ ih
def tb_wp (E : tb_env) (d m pc : Nat) (ls st : List Value) (h : tb_heap) (nx bc bs : Nat) (Q : Option Value → tb_heap → Nat → Prop) : Prop := ∃ (f : Nat) (z : Option Value × tb_heap × Nat), tb_run E f d m pc ls st h nx bc bs = some z ∧ Q z.1 z.2.1 z.2.2
theorem tb_wp.post {Q' : Option Value → tb_heap → Nat → Prop} (hw : tb_wp E d m pc ls st h nx bc bs Q) (hq : ∀ v h' nx', Q v h' nx' → Q' v h' nx') : tb_wp E d m pc ls st h nx bc bs Q' := by
  obtain ⟨f, z, h1, h2⟩ := hw
  exact ⟨f, z, h1, hq _ _ _ h2⟩
theorem tb_wp_ret {v : Option Value} (hre : tb_re m pc st = some v) : tb_wp E d m pc ls st h nx bc bs Q = Q v h nx := by
  apply propext
  constructor
  · rintro ⟨f, z, h1, h2⟩
    cases f with
    | zero => cases h1
    | succ f =>
      rw [tb_run_s, hre] at h1
      cases h1
      exact h2
  · intro hq
    exact ⟨1, (v, h, nx), by rw [tb_run_s, hre], hq⟩
theorem tb_wp_stp {z : tb_cfg} (hre : tb_re m pc st = none) (hiv : tb_iv m pc = none) (hs : tb_stp E d m pc ls st h nx bc bs = some z) : tb_wp E d m pc ls st h nx bc bs Q = tb_wp E d m z.1 z.2.1 z.2.2.1 z.2.2.2.1 z.2.2.2.2.1 z.2.2.2.2.2.1 z.2.2.2.2.2.2 Q := by
  apply propext
  constructor
  · rintro ⟨f, z1, h1, h2⟩
    cases f with
    | zero => cases h1
    | succ f =>
      rw [tb_run_s, hre] at h1
      dsimp only at h1
      rw [hiv] at h1
      dsimp only at h1
      rw [hs] at h1
      exact ⟨f, z1, h1, h2⟩
  · rintro ⟨f, z1, h1, h2⟩
    refine ⟨f + 1, z1, ?_, h2⟩
    rw [tb_run_s, hre]
    dsimp only
    rw [hiv]
    dsimp only
    rw [hs]
    exact h1
theorem tb_wp_no (hre : tb_re m pc st = none) (hiv : tb_iv m pc = none) (hs : tb_stp E d m pc ls st h nx bc bs = none) : tb_wp E d m pc ls st h nx bc bs Q = False := by
  apply propext
  constructor
  · rintro ⟨f, z1, h1, h2⟩
    cases f with
    | zero => cases h1
    | succ f =>
      rw [tb_run_s, hre] at h1
      dsimp only at h1
      rw [hiv] at h1
      dsimp only at h1
      rw [hs] at h1
      cases h1
  · intro hf; exact hf.elim
theorem tb_wp_call {t : Nat} {nb : Bool} {av r : List Value} (hre : tb_re m pc st = none) (hiv : tb_iv m pc = some (t, nb)) (has : tb_as t st = some (av, r)) (hck : tb_ck d t av r h bc bs = true) : tb_wp E d m pc ls st h nx bc bs Q = tb_wp E (d - 1) t 0 (tb_ent t av) [] h nx (tb_mc t) (tb_ms t) (fun v h' nx' => tb_wp E d m (pc + 3) ls (v.toList ++ r) h' nx' (bc - tb_mc t) (bs - tb_ms t) Q) := by
  apply propext
  constructor
  · rintro ⟨f, z1, h1, h2⟩
    cases f with
    | zero => cases h1
    | succ f =>
      rw [tb_run_s, hre] at h1
      dsimp only at h1
      rw [hiv] at h1
      dsimp only at h1
      rw [has] at h1
      dsimp only at h1
      rw [if_pos hck] at h1
      cases hr : tb_run E f (d - 1) t 0 (tb_ent t av) [] h nx (tb_mc t) (tb_ms t) with
      | none => rw [hr] at h1; cases h1
      | some z =>
        rw [hr] at h1
        exact ⟨f, z, hr, f, z1, h1, h2⟩
  · rintro ⟨f, z, h1, g, z1, h2, h3⟩
    refine ⟨max f g + 1, z1, ?_, h3⟩
    rw [tb_run_s, hre]
    dsimp only
    rw [hiv]
    dsimp only
    rw [has]
    dsimp only
    rw [if_pos hck, tb_mono (Nat.le_max_left f g) h1]
    exact tb_mono (Nat.le_max_right f g) h2
/-! one rule an instruction -/
def tb_wF {α : Type} (o : Option α) (K : α → Prop) : Prop := match o with
  | some v => K v
  | none => False
theorem tb_wF_some {α : Type} {v : α} {K : α → Prop} : tb_wF (some v) K = K v := rfl
def tb_vl (v : Option Value) (st : List Value) : List Value := match v with
  | some x => x :: st
  | none => st
theorem tb_vl_some {v : Value} {st : List Value} : tb_vl (some v) st = v :: st := rfl
theorem tb_vl_none {st : List Value} : tb_vl none st = st := rfl
def tb_isO (h : tb_heap) (b ci : Nat) : Prop := ∃ fs, h b = some (.inl (ci, fs))
/-- an instruction that is no call and no return -/
def tb_pl (i : Instr) (m : Nat) : Bool := match i with
  | .ireturn => false
  | .return_ => false
  | .invokevirtual _ => false
  | .invokestatic ix => match tb_lk (tb_ow m) ix with | some (t, _) => decide (1000 ≤ t) | none => false
  | .invokespecial ix => match tb_lk (tb_ow m) ix with | some (t, _) => decide (1000 ≤ t) | none => false
  | _ => true
theorem tb_pl_ok {i : Instr} {n : Nat} (hc : tb_cd m pc = some (i, n)) (hp : tb_pl i m = true) : tb_re m pc st = none ∧ tb_iv m pc = none := by
  unfold tb_re tb_iv
  rw [hc]
  cases i <;> first | exact ⟨rfl, rfl⟩ | (exfalso; revert hp; simp only [tb_pl, Bool.false_eq_true]; exact id) | skip
  · rename_i ix
    refine ⟨rfl, ?_⟩
    split
    · rename_i h; cases h
    · rename_i h; cases h
    · rename_i ix' h
      cases h
      simp only [tb_pl] at hp
      split
      · rename_i t b hl
        rw [hl] at hp
        rw [if_neg]
        intro q
        have : 1000 ≤ t := by simpa using hp
        omega
      · rfl
    · rfl
  · rename_i ix
    refine ⟨rfl, ?_⟩
    split
    · rename_i h; cases h
    · rename_i ix' h
      cases h
      simp only [tb_pl] at hp
      split
      · rename_i t b hl
        rw [hl] at hp
        rw [if_neg]
        intro q
        have : 1000 ≤ t := by simpa using hp
        omega
      · rfl
    · rename_i h; cases h
    · rfl
theorem tb_q {i : Instr} {n : Nat} {z : tb_cfg} (hc : tb_cd m pc = some (i, n)) (hp : (tb_pl i m && n == tb_len i n) = true) (hs : tb_stp1 E d m i n pc ls st h nx bc bs = some z) : tb_wp E d m pc ls st h nx bc bs Q = tb_wp E d m z.1 z.2.1 z.2.2.1 z.2.2.2.1 z.2.2.2.2.1 z.2.2.2.2.2.1 z.2.2.2.2.2.2 Q := by
  simp only [Bool.and_eq_true, beq_iff_eq] at hp
  obtain ⟨h1, h2⟩ := tb_pl_ok (st := st) hc hp.1
  refine tb_wp_stp h1 h2 ?_
  unfold tb_stp
  rw [hc]
  dsimp only
  rw [if_pos hp.2]
  exact hs
theorem tb_qn {i : Instr} {n : Nat} (hc : tb_cd m pc = some (i, n)) (hp : (tb_pl i m && n == tb_len i n) = true) (hs : tb_stp1 E d m i n pc ls st h nx bc bs = none) : tb_wp E d m pc ls st h nx bc bs Q = False := by
  simp only [Bool.and_eq_true, beq_iff_eq] at hp
  obtain ⟨h1, h2⟩ := tb_pl_ok (st := st) hc hp.1
  refine tb_wp_no h1 h2 ?_
  unfold tb_stp
  rw [hc]
  dsimp only
  rw [if_pos hp.2]
  exact hs
/-- an instruction that asks the heap for something -/
theorem tb_qF {i : Instr} {n : Nat} {α : Type} {o : Option α} {g : α → tb_cfg} (hc : tb_cd m pc = some (i, n)) (hp : (tb_pl i m && n == tb_len i n) = true) (hs : tb_stp1 E d m i n pc ls st h nx bc bs = o.bind fun v => some (g v)) : tb_wp E d m pc ls st h nx bc bs Q = tb_wF o (fun v => tb_wp E d m (g v).1 (g v).2.1 (g v).2.2.1 (g v).2.2.2.1 (g v).2.2.2.2.1 (g v).2.2.2.2.2.1 (g v).2.2.2.2.2.2 Q) := by
  cases o with
  | none => exact tb_qn hc hp hs
  | some v => exact tb_q hc hp hs
/-- a branch -/
theorem tb_qB {i : Instr} {n t u : Nat} {ls' st' : List Value} {c : Bool} {P : Prop} [Decidable P] (hc : tb_cd m pc = some (i, n)) (hp : (tb_pl i m && n == tb_len i n) = true) (hs : tb_stp1 E d m i n pc ls st h nx bc bs = some (bif c then t else u, ls', st', h, nx, bc, bs)) (hP : c = decide P) : tb_wp E d m pc ls st h nx bc bs Q = if P then tb_wp E d m t ls' st' h nx bc bs Q else tb_wp E d m u ls' st' h nx bc bs Q := by
  rw [tb_q hc hp hs]
  subst hP
  by_cases hh : P
  · simp [hh]
  · simp [hh]
theorem tb_qI {x : Int32} (hc : tb_cd m pc = some (.ireturn, 1)) (hs : tb_rt m = some .int) : tb_wp E d m pc ls [.int x] h nx bc bs Q = Q (some (.int x)) h nx := by
  refine tb_wp_ret ?_
  unfold tb_re
  rw [hc]
  simp [hs, tb_rok]
theorem tb_qZ {x : Int32} (hc : tb_cd m pc = some (.ireturn, 1)) (hs : tb_rt m = some .boolean) (hx : x = nI 0 ∨ x = nI 1) : tb_wp E d m pc ls [.int x] h nx bc bs Q = Q (some (.int x)) h nx := by
  refine tb_wp_ret ?_
  unfold tb_re
  rw [hc]
  have : tb_rok (tb_rt m) x = true := by
    rw [hs]
    rcases hx with rfl | rfl <;> rfl
  simp [this]
theorem tb_qV (hc : tb_cd m pc = some (.return_, 1)) (hs : tb_rt m = none) : tb_wp E d m pc ls [] h nx bc bs Q = Q none h nx := by
  refine tb_wp_ret ?_
  unfold tb_re
  rw [hc]
  simp [hs]
/-- a call of a method of an object, of a static one, of a constructor -/
theorem tb_qC {t : Nat} {nb : Bool} {av r av' : List Value} {i : Instr} {mc ms : Nat} (hc : tb_cd m pc = some (i, 3)) (hi : tb_iv m pc = some (t, nb)) (hri : (match i with | .ireturn => false | .return_ => false | _ => true) = true) (has : tb_as t st = some (av, r)) (hav : tb_ent t av = av') (hca : (av.all (fun v => v.category == 1) && decide (av.length ≤ tb_mL t)) = true) (hmc : tb_mc t = mc) (hms : tb_ms t = ms) (hd : 0 < d) (hs : tb_sm r = true) (hrv : tb_rv t av h = true) (h1 : mc ≤ bc) (h2 : ms ≤ bs) :
    tb_wp E d m pc ls st h nx bc bs Q = tb_wp E (d - 1) t 0 av' [] h nx mc ms (fun v h' nx' => tb_wp E d m (pc + 3) ls (tb_vl v r) h' nx' (bc - mc) (bs - ms) Q) := by
  subst hav; subst hmc; subst hms
  have hre : tb_re m pc st = none := by
    unfold tb_re
    rw [hc]
    cases i <;> first | rfl | (exfalso; revert hri; simp)
  simp only [Bool.and_eq_true, decide_eq_true_eq] at hca
  rw [tb_wp_call hre hi has (by simp only [tb_ck, Bool.and_eq_true, decide_eq_true_eq]; exact ⟨⟨⟨⟨⟨⟨hd, hs⟩, hca.1⟩, hca.2⟩, hrv⟩, h1⟩, h2⟩)]
  have e : ∀ v : Option Value, v.toList ++ r = tb_vl v r := fun v => by cases v <;> rfl
  simp only [e]
theorem tb_rv_O {t b ci : Nat} {av : List Value} (hk : tb_ow t = ci) (ho : tb_isO h b ci) : tb_rv t (.ref b :: av) h = true := by
  obtain ⟨fs, hf⟩ := ho
  simp [tb_rv, hf, hk]
theorem tb_rv_S {t : Nat} {av : List Value} (hk : (tb_kd t == 0) = false) : tb_rv t av h = true := by
  simp [tb_rv, hk]
end TBW
