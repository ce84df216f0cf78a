/-! WHAT A RUN KEEPS: no method but the constructors makes a cell; no cell is greater than 100000 -/
section KP
variable {X : List Int32}
def ab_sm (w : ab_W) : Prop := ∀ c ∈ w, ab_sl c ≤ 100000
theorem ab_sm_set {w : ab_W} {r : Nat} {x y : ab_E} (s : ab_sm w) (h : w[r]? = some x) (e : ab_sl y = ab_sl x) : ab_sm (w.set r y) := by
  intro c hc
  rcases List.mem_or_eq_of_mem_set hc with hc | rfl
  · exact s c hc
  · rw [e]
    exact s x (List.mem_of_getElem? h)
theorem ab_sm_app {w : ab_W} {y : ab_E} (s : ab_sm w) (e : ab_sl y ≤ 100000) : ab_sm (w ++ [y]) := by
  intro c hc
  rcases List.mem_append.mp hc with hc | hc
  · exact s c hc
  · rw [List.mem_singleton.mp hc]
    exact e
theorem ab_dfl_sm {ci : Nat} (h : Nat.blt ci 7 = true) : ab_sl (.inl (ci, ab_dfl ci)) ≤ 100000 := by
  have key : ∀ ci, ci < 7 → ab_sl (.inl (ci, ab_dfl ci)) ≤ 100000 := by decide +kernel
  exact key ci (Nat.le_of_ble_eq_true h)
theorem ab_z_le : ∀ w : ab_W, ab_sm w → ab_z w ≤ w.length * 100000
  | [], _ => Nat.le_refl _
  | c :: w, s => by
    have h1 := ab_z_le w (fun d hd => s d (List.mem_cons_of_mem _ hd))
    have h2 := s c List.mem_cons_self
    have e : ab_z (c :: w) = ab_sl c + ab_z w := by
      unfold ab_z
      rw [List.map_cons, List.sum_cons]
    rw [e, List.length_cons]
    omega
/-- the constructors among the methods -/
def ab_ini : List Nat := [kX0_init, kX1_init, kX2_init, kX3_init, kX4_init, kX5_init, kX6_init]
def ab_ni (k : Nat) : Bool := Nat.blt k 246 && !(ab_ini.any (fun j => Nat.beq j k))
def ab_nc (mi : ab_I) (ix : Nat) : Bool := match ab_lk (ab_me (ic mi)) ix with
  | some (k', _, _) => ab_ni k'
  | none => true
/-- an instruction that makes no cell and calls no constructor -/
def ab_na1 (mi : ab_I) (i : Instr) : Bool := match i with
  | .new ix => (ab_lk (ab_nw (ic mi)) ix).isNone
  | .newarray _ => false
  | .anewarray _ => false
  | .invokespecial ix => (ab_lk (ab_me (ic mi)) ix).isNone
  | .invokestatic ix => ab_nc mi ix
  | .invokevirtual ix => ab_nc mi ix
  | _ => true
theorem ab_c4 : (List.range 246).all (fun k => !(ab_ni k) || (it_ (ab_mi k)).all (fun e => ab_na1 (ab_mi k) e.2.1)) = true := by decide +kernel
set_option maxHeartbeats 4000000 in
theorem ab_ex_keep (P : ab_W → Prop) (h3 : ∀ w r x y, P w → w[r]? = some x → ab_sl y = ab_sl x → P (w.set r y)) {mi : ab_I} {i : Instr} (h4 : ab_na1 mi i = false → ∀ w y, P w → ab_sl y ≤ 100000 → P (w ++ [y])) {pc pc' : Nat} {ls ls' : List (Option Value)} {st st' : List Value} {w w' : ab_W} (h : ab_ex X mi i pc ls st w = some (.inl (pc', ls', st', w'))) (p : P w) : P w' := by
  have L0 : ∀ {pc1 : Nat} {ls1 : List (Option Value)} {st1 : List Value}, ab_nx pc1 ls1 st1 w = some (.inl (pc', ls', st', w')) → P w' := fun h => by
    obtain ⟨-, -, -, rfl⟩ := ab_nxe h
    exact p
  have L1 : ∀ {pc1 : Nat} {off : Int} {ls1 : List (Option Value)} {st1 : List Value}, ab_go pc1 off ls1 st1 w = some (.inl (pc', ls', st', w')) → P w' := fun h => by
    obtain ⟨-, -, -, rfl⟩ := ab_goe h
    exact p
  have L2 : ∀ {b : Bool} {pc1 : Nat} {off : Int} {ls1 : List (Option Value)} {st1 : List Value}, ab_if b pc1 off ls1 st1 w = some (.inl (pc', ls', st', w')) → P w' := fun h => by
    obtain ⟨-, -, rfl, -⟩ := ab_ife h
    exact p
  have L3 : ∀ {pc1 : Nat} {ls1 : List (Option Value)} {st1 : List Value} {r : Nat} {x y : ab_E}, w[r]? = some x → ab_sl y = ab_sl x → ab_nx pc1 ls1 st1 (w.set r y) = some (.inl (pc', ls', st', w')) → P w' := fun hw hs h => by
    obtain ⟨-, -, -, rfl⟩ := ab_nxe h
    exact h3 _ _ _ _ p hw hs
  have L4 : ∀ {pc1 : Nat} {ls1 : List (Option Value)} {st1 : List Value} {y : ab_E}, ab_na1 mi i = false → ab_sl y ≤ 100000 → ab_nx pc1 ls1 st1 (w ++ [y]) = some (.inl (pc', ls', st', w')) → P w' := fun ha hy h => by
    obtain ⟨-, -, -, rfl⟩ := ab_nxe h
    exact h4 ha _ _ p hy
  cases i with
  | putfield ix =>
    simp only [ab_ex, ab_putf] at h
    repeat' split at h
    all_goals first | (cases h; done) | exact L3 (by assumption) (by simp [ab_sl]) h
  | iastore =>
    simp only [ab_ex, ab_iast] at h
    repeat' split at h
    all_goals first | (cases h; done) | exact L3 (by assumption) (by simp [ab_sl]) h
  | aastore =>
    simp only [ab_ex, ab_aast] at h
    repeat' split at h
    all_goals first | (cases h; done) | exact L3 (by assumption) (by simp [ab_sl]) h
  | invokestatic ix =>
    simp only [ab_ex, ab_cpy] at h
    repeat' split at h
    all_goals first | (cases h; done) | exact L0 h | exact L3 (by assumption) (by simp [ab_sl]) h | exact absurd h (ab_inv_no _ _ _ _ _ _ _ _)
  | invokevirtual ix =>
    simp only [ab_ex] at h
    exact absurd h (ab_inv_no _ _ _ _ _ _ _ _)
  | invokespecial ix =>
    simp only [ab_ex] at h
    repeat' split at h
    all_goals first | (cases h; done) | exact L0 h | exact absurd h (ab_inv_no _ _ _ _ _ _ _ _)
  | newarray ty =>
    cases ty with
    | int =>
      simp only [ab_ex] at h
      split at h
      next n st1 =>
        split at h
        next hc =>
          simp only [Bool.and_eq_true] at hc
          exact L4 rfl (by show (List.replicate _ _).length ≤ _; rw [List.length_replicate]; exact Nat.le_of_ble_eq_true hc.2) h
        next => cases h
      next => cases h
    | _ => cases h
  | new ix =>
    simp only [ab_ex] at h
    split at h
    next ci pl hl =>
      split at h
      next hc => exact L4 (by simp only [ab_na1, hl]; rfl) (ab_dfl_sm hc) h
      next => cases h
    next => cases h
  | anewarray ix =>
    simp only [ab_ex] at h
    split at h
    next k pl hl =>
      split at h
      next n st1 =>
        split at h
        next hc =>
          simp only [Bool.and_eq_true] at hc
          exact L4 rfl (by show (List.replicate _ _).length ≤ _; rw [List.length_replicate]; exact Nat.le_of_ble_eq_true hc.1.2) h
        next => cases h
      next => cases h
    next => cases h
  | getfield ix =>
    simp only [ab_ex, ab_getf] at h
    repeat' split at h
    all_goals first | (cases h; done) | exact L0 h
  | arraylength =>
    simp only [ab_ex, ab_alen] at h
    repeat' split at h
    all_goals first | (cases h; done) | exact L0 h
  | iaload =>
    simp only [ab_ex, ab_iald] at h
    repeat' split at h
    all_goals first | (cases h; done) | exact L0 h
  | baload =>
    simp only [ab_ex, ab_bald] at h
    repeat' split at h
    all_goals first | (cases h; done) | exact L0 h
  | aaload =>
    simp only [ab_ex, ab_aald] at h
    repeat' split at h
    all_goals first | (cases h; done) | exact L0 h
  | iload_n _ | iload _ | lload_n _ | lload _ | aload_n _ | aload _ | istore_n _ | istore _ | lstore_n _ | astore_n _ | astore _ =>
    simp only [ab_ex, ab_ldi, ab_ldl, ab_lda, ab_sti, ab_stl, ab_sta] at h
    repeat' split at h
    all_goals first | (cases h; done) | exact L0 h
  | iconst v => exact L0 h
  | bipush v => exact L0 h
  | sipush v => exact L0 h
  | lconst v => exact L0 h
  | aconst_null => exact L0 h
  | goto off => exact L1 h
  | ireturn | lreturn | areturn | return_ | ldc _ | ldc_w _ | ldc2_w _ | iinc _ _ | iadd | isub | imul | iand | ior | ixor | ishl | ishr | iushr | idiv | irem | i2b | i2s | i2c | i2l | ladd | lmul | lcmp | dup | dup2 | pop | ifCond _ _ | if_icmp _ _ | ifnull _ | ifnonnull _ | tableswitch _ _ _ _ | getstatic _ =>
    simp only [ab_ex] at h
    repeat' split at h
    all_goals first | (cases h; done) | exact L0 h | exact L1 h | exact L2 h
  | _ => cases h
theorem ab_run_keep (P : ab_W → Prop) (K : Nat → Prop) (h3 : ∀ w r x y, P w → w[r]? = some x → ab_sl y = ab_sl x → P (w.set r y)) (h4 : ∀ k, K k → ∀ e ∈ it_ (ab_mi k), ab_na1 (ab_mi k) e.2.1 = false → ∀ w y, P w → ab_sl y ≤ 100000 → P (w ++ [y])) (h5 : ∀ k, K k → ∀ e ∈ it_ (ab_mi k), ∀ (pc : Nat) (ls : List (Option Value)) (st : List Value) (w : ab_W) (k' : Nat) (as : List Value) (c : ab_C), ab_ex X (ab_mi k) e.2.1 pc ls st w = some (.inr (.inr (k', as, c))) → K k') : ∀ (n k : Nat), K k → ∀ (pc : Nat) (ls : List (Option Value)) (st : List Value) (w : ab_W) (v : Option Value) (w' : ab_W), ab_run X n k pc ls st w = some (v, w') → P w → P w' := by
  intro n
  induction n with
  | zero => intro k hk pc ls st w v w' h; cases h
  | succ n ih =>
    intro k hk pc ls st w v w' h p
    unfold ab_run at h
    cases hs : ab_stp X (ab_mi k) pc ls st w with
    | none => rw [hs] at h; cases h
    | some q =>
      rw [hs] at h
      unfold ab_stp at hs
      split at hs
      next i n' hlk =>
        have hm := ab_lk_mem _ _ _ hlk
        match q, hs, h with
        | .inl (pc', ls', st', w1), hs, h => exact ih k hk pc' ls' st' w1 v w' h (ab_ex_keep P h3 (h4 k hk _ hm) hs p)
        | .inr (.inl (v1, w1)), hs, h =>
          cases h
          have hw : w' = w := (ab_ex_ret hs).1
          subst hw
          exact p
        | .inr (.inr (k', as, (pc', ls', st', w2))), hs, h =>
          have hk' := h5 k hk _ hm _ _ _ _ _ _ _ hs
          obtain ⟨op, ix, hinv, -⟩ := ab_ex_call hs
          obtain ⟨rfl, -⟩ := ab_inv_w hinv
          dsimp only at h
          cases hr : ab_run X n k' 0 (ab_ent (iL (ab_mi k')) as) [] w2 with
          | none => rw [hr] at h; cases h
          | some r =>
            rw [hr] at h
            obtain ⟨v1, w3⟩ := r
            exact ih k hk pc' ls' _ w3 v w' h (ih k' hk' 0 _ [] w2 v1 w3 hr p)
      next => cases hs
/-- no cell grows too great -/
theorem ab_run_sm {n k pc : Nat} {ls : List (Option Value)} {st : List Value} {w w' : ab_W} {v : Option Value} (h : ab_run X n k pc ls st w = some (v, w')) (s : ab_sm w) : ab_sm w' :=
  ab_run_keep (X := X) ab_sm (fun _ => True) (fun _ _ _ _ s h e => ab_sm_set s h e) (fun _ _ _ _ _ _ _ s e => ab_sm_app s e) (fun _ _ _ _ _ _ _ _ _ _ _ _ => trivial) n k trivial pc ls st w v w' h s
theorem ab_ni_na {k : Nat} (hk : ab_ni k = true) {e : Nat × Instr × Nat} (he : e ∈ it_ (ab_mi k)) : ab_na1 (ab_mi k) e.2.1 = true := by
  have hlt : k < 246 := by
    unfold ab_ni at hk
    simp only [Bool.and_eq_true] at hk
    exact Nat.le_of_ble_eq_true hk.1
  have h1 := List.all_eq_true.mp ab_c4 k (List.mem_range.mpr hlt)
  rw [hk] at h1
  exact List.all_eq_true.mp h1 e he
/-- no call but a constructor's makes a cell -/
theorem ab_run_len {n k pc : Nat} {ls : List (Option Value)} {st : List Value} {w w' : ab_W} {v : Option Value} (hk : ab_ni k = true) (h : ab_run X n k pc ls st w = some (v, w')) : w'.length = w.length := by
  refine ab_run_keep (X := X) (fun u => u.length = w.length) (fun k => ab_ni k = true) (fun _ _ _ _ s _ _ => List.length_set.trans s) (fun k hk e he hn => ?_) (fun k hk e he pc ls st u k' as c hx => ?_) n k hk pc ls st w v w' h rfl
  · rw [ab_ni_na hk he] at hn
    cases hn
  · have ha := ab_ni_na hk he
    obtain ⟨op, ix, hinv, hop⟩ := ab_ex_call hx
    obtain ⟨pc', ls', st', w2⟩ := c
    obtain ⟨-, -, nest, pl, hl⟩ := ab_inv_w hinv
    rcases hop with ⟨-, hi⟩ | ⟨-, hi⟩ | ⟨-, hi⟩
    · rw [hi] at ha
      simp only [ab_na1, ab_nc, hl] at ha
      exact ha
    · rw [hi] at ha
      simp only [ab_na1, ab_nc, hl] at ha
      exact ha
    · rw [hi] at ha
      simp only [ab_na1, hl] at ha
      cases ha
theorem q_len {k : Nat} {as : List Value} {w : ab_W} {Q : Option Value → ab_W → Prop} (hk : ab_ni k = true) (h : ab_Q X k as w Q) : ab_Q X k as w (fun v w1 => Q v w1 ∧ w1.length = w.length) := by
  obtain ⟨v, w1, ⟨n, e⟩, q⟩ := h
  exact ⟨v, w1, ⟨n, e⟩, q, ab_run_len hk e⟩
/-- alike, and as many cells as at first -/
def LL (w : ab_W) : Prop := LW w ∧ w.length = 65
theorem p_len {kx km : Nat} {ax am : List Value} {w : ab_W} (h : PQ X kx km ax am w) (hx : ab_ni kx = true) (hm : ab_ni km = true) (hl : w.length = 65) : ab_Q X kx ax w (fun v w1 => ∃ r, v = some (.int r) ∧ w1[54]? = w[54]? ∧ ab_Q X km am w1 (fun v2 w2 => v2 = some (.int r) ∧ LL w2)) := by
  refine q_imp (q_len hx h) (fun v w1 q => ?_)
  obtain ⟨⟨r, h1, h2, h3⟩, h4⟩ := q
  refine ⟨r, h1, h2, q_imp (q_len hm h3) (fun v2 w2 q2 => ?_)⟩
  obtain ⟨⟨g1, g2⟩, g3⟩ := q2
  exact ⟨g1, g2, g3.trans (h4.trans hl)⟩
theorem lw_o {w : ab_W} (h : LW w) : (∃ vs, w[0]? = some (.inl (5, vs))) ∧ ∃ vs, w[54]? = some (.inl (6, vs)) := by
  obtain ⟨s, n, st, ks, kp, tp, tn, bo, so, nu, R, M, -⟩ := h
  obtain ⟨oth, nz, mv, fr, to, vl, wr, a54, -⟩ := M
  exact ⟨⟨_, R.1⟩, _, a54⟩
end KP
