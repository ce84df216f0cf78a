section FIVE
variable {X : List Int32} {N : Nat} {E : Nat → Value} {cI cH cS : ClassId} {D : va_G}
theorem ab_nx_no {pc : Nat} {ls : List (Option Value)} {st : List Value} {w : ab_W} {q} : ¬ ab_nx pc ls st w = some (.inr q) := by
  intro h
  unfold ab_nx at h
  cases h
theorem ab_go_no {pc : Nat} {off : Int} {ls : List (Option Value)} {st : List Value} {w : ab_W} {q} : ¬ ab_go pc off ls st w = some (.inr q) := by
  intro h
  unfold ab_go at h
  split at h
  · exact ab_nx_no h
  · cases h
theorem ab_if_no {b : Bool} {pc : Nat} {off : Int} {ls : List (Option Value)} {st : List Value} {w : ab_W} {q} : ¬ ab_if b pc off ls st w = some (.inr q) := by
  intro h
  unfold ab_if at h
  split at h
  · split at h
    · exact ab_nx_no h
    · exact ab_nx_no h
  · cases h
set_option maxHeartbeats 4000000 in
theorem ab_grow {mi : ab_I} {i : Instr} {pc pc' : Nat} {ls ls' : List (Option Value)} {st st' : List Value} {w w' : ab_W} (h : ab_ex X mi i pc ls st w = some (.inl (pc', ls', st', w'))) : w.length ≤ w'.length ∧ ab_z w ≤ ab_z w' := by
  have L0 : ∀ {pc1 : Nat} {ls1 : List (Option Value)} {st1 : List Value}, ab_nx pc1 ls1 st1 w = some (.inl (pc', ls', st', w')) → w.length ≤ w'.length ∧ ab_z w ≤ ab_z w' := fun h => by
    obtain ⟨-, -, -, rfl⟩ := ab_nxe h
    exact ⟨Nat.le_refl _, Nat.le_refl _⟩
  have L1 : ∀ {pc1 : Nat} {off : Int} {ls1 : List (Option Value)} {st1 : List Value}, ab_go pc1 off ls1 st1 w = some (.inl (pc', ls', st', w')) → w.length ≤ w'.length ∧ ab_z w ≤ ab_z w' := fun h => by
    obtain ⟨-, -, -, rfl⟩ := ab_goe h
    exact ⟨Nat.le_refl _, Nat.le_refl _⟩
  have L2 : ∀ {b : Bool} {pc1 : Nat} {off : Int} {ls1 : List (Option Value)} {st1 : List Value}, ab_if b pc1 off ls1 st1 w = some (.inl (pc', ls', st', w')) → w.length ≤ w'.length ∧ ab_z w ≤ ab_z w' := fun h => by
    obtain ⟨-, -, rfl, -⟩ := ab_ife h
    exact ⟨Nat.le_refl _, Nat.le_refl _⟩
  have L3 : ∀ {pc1 : Nat} {ls1 : List (Option Value)} {st1 : List Value} {r : Nat} {x y : ab_E}, w[r]? = some x → ab_sl y = ab_sl x → ab_nx pc1 ls1 st1 (w.set r y) = some (.inl (pc', ls', st', w')) → w.length ≤ w'.length ∧ ab_z w ≤ ab_z w' := fun hw hs h => by
    obtain ⟨-, -, -, rfl⟩ := ab_nxe h
    exact ⟨Nat.le_of_eq List.length_set.symm, Nat.le_of_eq (ab_z_set hw hs).symm⟩
  have L4 : ∀ {pc1 : Nat} {ls1 : List (Option Value)} {st1 : List Value} {y : ab_E}, ab_nx pc1 ls1 st1 (w ++ [y]) = some (.inl (pc', ls', st', w')) → w.length ≤ w'.length ∧ ab_z w ≤ ab_z w' := fun h => by
    obtain ⟨-, -, -, rfl⟩ := ab_nxe h
    exact ⟨by simp, by unfold ab_z; rw [List.map_append, List.sum_append]; omega⟩
  cases i with
  | putfield ix =>
    simp only [ab_ex, ab_putf] at h
    repeat' split at h
    all_goals first | (cases h; done) | exact L3 (by assumption) (by simp [ab_sl]) h
  | iastore =>
    simp only [ab_ex, ab_iast] at h
    repeat' split at h
    all_goals first | (cases h; done) | exact L3 (by assumption) (by simp [ab_sl]) h
  | aastore =>
    simp only [ab_ex, ab_aast] at h
    repeat' split at h
    all_goals first | (cases h; done) | exact L3 (by assumption) (by simp [ab_sl]) h
  | invokestatic ix =>
    simp only [ab_ex, ab_cpy] at h
    repeat' split at h
    all_goals first | (cases h; done) | exact L0 h | exact L3 (by assumption) (by simp [ab_sl]) h | exact absurd h (ab_inv_no _ _ _ _ _ _ _ _)
  | invokevirtual ix =>
    simp only [ab_ex] at h
    exact absurd h (ab_inv_no _ _ _ _ _ _ _ _)
  | invokespecial ix =>
    simp only [ab_ex] at h
    repeat' split at h
    all_goals first | (cases h; done) | exact L0 h | exact absurd h (ab_inv_no _ _ _ _ _ _ _ _)
  | newarray ty =>
    cases ty with
    | int =>
      simp only [ab_ex] at h
      repeat' split at h
      all_goals first | (cases h; done) | exact L4 h
    | _ => cases h
  | new ix =>
    simp only [ab_ex] at h
    repeat' split at h
    all_goals first | (cases h; done) | exact L4 h
  | anewarray ix =>
    simp only [ab_ex] at h
    repeat' split at h
    all_goals first | (cases h; done) | exact L4 h
  | getfield ix =>
    simp only [ab_ex, ab_getf] at h
    repeat' split at h
    all_goals first | (cases h; done) | exact L0 h
  | arraylength =>
    simp only [ab_ex, ab_alen] at h
    repeat' split at h
    all_goals first | (cases h; done) | exact L0 h
  | iaload =>
    simp only [ab_ex, ab_iald] at h
    repeat' split at h
    all_goals first | (cases h; done) | exact L0 h
  | baload =>
    simp only [ab_ex, ab_bald] at h
    repeat' split at h
    all_goals first | (cases h; done) | exact L0 h
  | aaload =>
    simp only [ab_ex, ab_aald] at h
    repeat' split at h
    all_goals first | (cases h; done) | exact L0 h
  | iload_n k => simp only [ab_ex, ab_ldi] at h; repeat' split at h
                 all_goals first | (cases h; done) | exact L0 h
  | iload k => simp only [ab_ex, ab_ldi] at h; repeat' split at h
               all_goals first | (cases h; done) | exact L0 h
  | lload_n k => simp only [ab_ex, ab_ldl] at h; repeat' split at h
                 all_goals first | (cases h; done) | exact L0 h
  | lload k => simp only [ab_ex, ab_ldl] at h; repeat' split at h
               all_goals first | (cases h; done) | exact L0 h
  | aload_n k => simp only [ab_ex, ab_lda] at h; repeat' split at h
                 all_goals first | (cases h; done) | exact L0 h
  | aload k => simp only [ab_ex, ab_lda] at h; repeat' split at h
               all_goals first | (cases h; done) | exact L0 h
  | istore_n k => simp only [ab_ex, ab_sti] at h; repeat' split at h
                  all_goals first | (cases h; done) | exact L0 h
  | istore k => simp only [ab_ex, ab_sti] at h; repeat' split at h
                all_goals first | (cases h; done) | exact L0 h
  | lstore_n k => simp only [ab_ex, ab_stl] at h; repeat' split at h
                  all_goals first | (cases h; done) | exact L0 h
  | astore_n k => simp only [ab_ex, ab_sta] at h; repeat' split at h
                  all_goals first | (cases h; done) | exact L0 h
  | astore k => simp only [ab_ex, ab_sta] at h; repeat' split at h
                all_goals first | (cases h; done) | exact L0 h
  | iconst v => exact L0 h
  | bipush v => exact L0 h
  | sipush v => exact L0 h
  | lconst v => exact L0 h
  | aconst_null => exact L0 h
  | goto off => exact L1 h
  | ireturn | lreturn | areturn | return_ | ldc _ | ldc_w _ | ldc2_w _ | iinc _ _ | iadd | isub | imul | iand | ior | ixor | ishl | ishr | iushr | idiv | irem | i2b | i2s | i2c | i2l | ladd | lmul | lcmp | dup | dup2 | pop | ifCond _ _ | if_icmp _ _ | ifnull _ | ifnonnull _ | tableswitch _ _ _ _ | getstatic _ =>
    simp only [ab_ex] at h
    repeat' split at h
    all_goals first | (cases h; done) | exact L0 h | exact L1 h | exact L2 h
  | _ => cases h
theorem ab_inv_w {mi : ab_I} {op ix k' pc pc' : Nat} {as : List Value} {ls ls' : List (Option Value)} {st st' : List Value} {w w' : ab_W} (h : ab_inv mi op pc ix ls st w = some (.inr (.inr (k', as, (pc', ls', st', w'))))) : w' = w ∧ (lg_sl as).length ≤ iL (ab_mi k') ∧ ∃ nest pl, ab_lk (ab_me (ic mi)) ix = some (k', nest, pl) := by
  unfold ab_inv at h
  split at h
  next k1 nest pl hl =>
    split at h
    next hc =>
      simp only [Bool.and_eq_true, decide_eq_true_eq] at hc
      have hc := hc.2
      split at h
      · split at h
        · cases h
          exact ⟨rfl, hc, nest, pl, hl⟩
        · cases h
      · split at h
        next r as0 has =>
          split at h
          next ci vv hw =>
            split at h
            · cases h
              rw [has] at hc
              exact ⟨rfl, hc, nest, pl, hl⟩
            · cases h
          · cases h
        next j as0 has =>
          split at h
          · cases h
            rw [has] at hc
            exact ⟨rfl, hc, nest, pl, hl⟩
          · cases h
        next => cases h
      · split at h
        next r as0 has =>
          split at h
          · cases h
            rw [has] at hc
            exact ⟨rfl, hc, nest, pl, hl⟩
          · cases h
        next => cases h
    next => cases h
  next => cases h
set_option maxHeartbeats 4000000 in
theorem ab_ex_call {mi : ab_I} {i : Instr} {pc : Nat} {ls : List (Option Value)} {st : List Value} {w : ab_W} {q : Nat × List Value × ab_C} (h : ab_ex X mi i pc ls st w = some (.inr (.inr q))) : ∃ op ix, ab_inv mi op pc ix ls st w = some (.inr (.inr q)) ∧ ((op = 0 ∧ i = .invokestatic ix) ∨ (op = 1 ∧ i = .invokevirtual ix) ∨ (op = 2 ∧ i = .invokespecial ix)) := by
  cases i with
  | invokestatic ix =>
    simp only [ab_ex, ab_cpy] at h
    repeat' split at h
    all_goals first | (cases h; done) | exact absurd h ab_nx_no | exact ⟨0, ix, h, Or.inl ⟨rfl, rfl⟩⟩
  | invokevirtual ix =>
    simp only [ab_ex] at h
    exact ⟨1, ix, h, Or.inr (Or.inl ⟨rfl, rfl⟩)⟩
  | invokespecial ix =>
    simp only [ab_ex] at h
    repeat' split at h
    all_goals first | (cases h; done) | exact absurd h ab_nx_no | exact ⟨2, ix, h, Or.inr (Or.inr ⟨rfl, rfl⟩)⟩
  | newarray ty =>
    cases ty with
    | int =>
      simp only [ab_ex] at h
      repeat' split at h
      all_goals first | (cases h; done) | exact absurd h ab_nx_no
    | _ => cases h
  | putfield ix => simp only [ab_ex, ab_putf] at h; repeat' split at h
                   all_goals first | (cases h; done) | exact absurd h ab_nx_no
  | getfield ix => simp only [ab_ex, ab_getf] at h; repeat' split at h
                   all_goals first | (cases h; done) | exact absurd h ab_nx_no
  | iastore => simp only [ab_ex, ab_iast] at h; repeat' split at h
               all_goals first | (cases h; done) | exact absurd h ab_nx_no
  | aastore => simp only [ab_ex, ab_aast] at h; repeat' split at h
               all_goals first | (cases h; done) | exact absurd h ab_nx_no
  | arraylength => simp only [ab_ex, ab_alen] at h; repeat' split at h
                   all_goals first | (cases h; done) | exact absurd h ab_nx_no
  | iaload => simp only [ab_ex, ab_iald] at h; repeat' split at h
              all_goals first | (cases h; done) | exact absurd h ab_nx_no
  | baload => simp only [ab_ex, ab_bald] at h; repeat' split at h
              all_goals first | (cases h; done) | exact absurd h ab_nx_no
  | aaload => simp only [ab_ex, ab_aald] at h; repeat' split at h
              all_goals first | (cases h; done) | exact absurd h ab_nx_no
  | iload_n _ | iload _ | lload_n _ | lload _ | aload_n _ | aload _ | istore_n _ | istore _ | lstore_n _ | astore_n _ | astore _ =>
    simp only [ab_ex, ab_ldi, ab_ldl, ab_lda, ab_sti, ab_stl, ab_sta] at h
    repeat' split at h
    all_goals first | (cases h; done) | exact absurd h ab_nx_no
  | iconst v => exact absurd h ab_nx_no
  | bipush v => exact absurd h ab_nx_no
  | sipush v => exact absurd h ab_nx_no
  | lconst v => exact absurd h ab_nx_no
  | aconst_null => exact absurd h ab_nx_no
  | goto off => exact absurd h ab_go_no
  | new _ | anewarray _ | ireturn | lreturn | areturn | return_ | ldc _ | ldc_w _ | ldc2_w _ | iinc _ _ | iadd | isub | imul | iand | ior | ixor | ishl | ishr | iushr | idiv | irem | i2b | i2s | i2c | i2l | ladd | lmul | lcmp | dup | dup2 | pop | ifCond _ _ | if_icmp _ _ | ifnull _ | ifnonnull _ | tableswitch _ _ _ _ | getstatic _ =>
    simp only [ab_ex] at h
    repeat' split at h
    all_goals first | (cases h; done) | exact absurd h ab_nx_no | exact absurd h ab_go_no | exact absurd h ab_if_no
  | _ => cases h
theorem ab_inv_nr {mi : ab_I} {op ix pc : Nat} {ls : List (Option Value)} {st : List Value} {w : ab_W} {q : Option Value × ab_W} : ¬ ab_inv mi op pc ix ls st w = some (.inr (.inl q)) := by
  intro h
  unfold ab_inv at h
  repeat' split at h
  all_goals cases h
set_option maxHeartbeats 4000000 in
theorem ab_ex_ret {mi : ab_I} {i : Instr} {pc : Nat} {ls : List (Option Value)} {st : List Value} {w w' : ab_W} {v : Option Value} (h : ab_ex X mi i pc ls st w = some (.inr (.inl (v, w')))) : w' = w ∧ (i = .ireturn ∨ i = .lreturn ∨ i = .areturn ∨ i = .return_) := by
  cases i with
  | invokestatic ix =>
    simp only [ab_ex, ab_cpy] at h
    repeat' split at h
    all_goals first | (cases h; done) | exact absurd h ab_nx_no | exact absurd h ab_inv_nr
  | invokevirtual ix =>
    simp only [ab_ex] at h
    exact absurd h ab_inv_nr
  | invokespecial ix =>
    simp only [ab_ex] at h
    repeat' split at h
    all_goals first | (cases h; done) | exact absurd h ab_nx_no | exact absurd h ab_inv_nr
  | newarray ty =>
    cases ty with
    | int =>
      simp only [ab_ex] at h
      repeat' split at h
      all_goals first | (cases h; done) | exact absurd h ab_nx_no
    | _ => cases h
  | putfield ix => simp only [ab_ex, ab_putf] at h; repeat' split at h
                   all_goals first | (cases h; done) | exact absurd h ab_nx_no
  | getfield ix => simp only [ab_ex, ab_getf] at h; repeat' split at h
                   all_goals first | (cases h; done) | exact absurd h ab_nx_no
  | iastore => simp only [ab_ex, ab_iast] at h; repeat' split at h
               all_goals first | (cases h; done) | exact absurd h ab_nx_no
  | aastore => simp only [ab_ex, ab_aast] at h; repeat' split at h
               all_goals first | (cases h; done) | exact absurd h ab_nx_no
  | arraylength => simp only [ab_ex, ab_alen] at h; repeat' split at h
                   all_goals first | (cases h; done) | exact absurd h ab_nx_no
  | iaload => simp only [ab_ex, ab_iald] at h; repeat' split at h
              all_goals first | (cases h; done) | exact absurd h ab_nx_no
  | baload => simp only [ab_ex, ab_bald] at h; repeat' split at h
              all_goals first | (cases h; done) | exact absurd h ab_nx_no
  | aaload => simp only [ab_ex, ab_aald] at h; repeat' split at h
              all_goals first | (cases h; done) | exact absurd h ab_nx_no
  | iload_n _ | iload _ | lload_n _ | lload _ | aload_n _ | aload _ | istore_n _ | istore _ | lstore_n _ | astore_n _ | astore _ =>
    simp only [ab_ex, ab_ldi, ab_ldl, ab_lda, ab_sti, ab_stl, ab_sta] at h
    repeat' split at h
    all_goals first | (cases h; done) | exact absurd h ab_nx_no
  | iconst v => exact absurd h ab_nx_no
  | bipush v => exact absurd h ab_nx_no
  | sipush v => exact absurd h ab_nx_no
  | lconst v => exact absurd h ab_nx_no
  | aconst_null => exact absurd h ab_nx_no
  | goto off => exact absurd h ab_go_no
  | ireturn =>
    simp only [ab_ex] at h
    repeat' split at h
    all_goals first | (cases h; done) | (cases h; exact ⟨rfl, Or.inl rfl⟩)
  | lreturn =>
    simp only [ab_ex] at h
    repeat' split at h
    all_goals first | (cases h; done) | (cases h; exact ⟨rfl, Or.inr (Or.inl rfl)⟩)
  | areturn =>
    simp only [ab_ex] at h
    repeat' split at h
    all_goals first | (cases h; done) | (cases h; exact ⟨rfl, Or.inr (Or.inr (Or.inl rfl))⟩)
  | return_ =>
    simp only [ab_ex] at h
    repeat' split at h
    all_goals first | (cases h; done) | (cases h; exact ⟨rfl, Or.inr (Or.inr (Or.inr rfl))⟩)
  | new _ | anewarray _ | ldc _ | ldc_w _ | ldc2_w _ | iinc _ _ | iadd | isub | imul | iand | ior | ixor | ishl | ishr | iushr | idiv | irem | i2b | i2s | i2c | i2l | ladd | lmul | lcmp | dup | dup2 | pop | ifCond _ _ | if_icmp _ _ | ifnull _ | ifnonnull _ | tableswitch _ _ _ _ | getstatic _ =>
    simp only [ab_ex] at h
    repeat' split at h
    all_goals first | (cases h; done) | exact absurd h ab_nx_no | exact absurd h ab_go_no | exact absurd h ab_if_no
  | _ => cases h
theorem ab_rfit_ok {r : Option FieldType} {x : Int32} (h : ab_rfit r x = true) : ∃ ty, r = some ty ∧ narrow ty (.int x) = .int x := by
  cases r with
  | none => cases h
  | some ty =>
    refine ⟨ty, rfl, ?_⟩
    cases ty with
    | boolean =>
      have h' : (x == 0 || x == 1) = true := h
      simp only [Bool.or_eq_true, beq_iff_eq] at h'
      rcases h' with rfl | rfl <;> rfl
    | byte =>
      have h' : (x == x.toInt8.toInt32) = true := h
      exact congrArg Value.int (eq_of_beq h').symm
    | char =>
      have h' : (x == x.toUInt32.toUInt16.toUInt32.toInt32) = true := h
      exact congrArg Value.int (eq_of_beq h').symm
    | int => rfl
    | _ => cases h
theorem ab_met {l : Launch} (hE : ∀ j, E j = .null ∨ ∃ a, E j = .ref a) (hc2 : ∀ k, k < 246 → ab_ck2 (ab_mi k) = true) {k : Nat} (hk : k < 246) {as : List Value} {w w1 : ab_W} {v : Option Value} (hfit : (lg_sl as).length ≤ iL (ab_mi k))
    (ih : ∀ {p : Program} {e : Env} {R : Room} {s : State} {m : MethodId} {args : Array Value} {below : List Frame} {meth : Method} {c : Code} {Q : State → Prop} {w0 : ab_W}, ab_B p s m args meth c (ab_mi k) X N E cI cH cS D w0 → (w0.length ≤ w.length ∧ ab_z w0 ≤ ab_z w) → (w1.length - w0.length ≤ R.cells ∧ ab_z w1 - ab_z w0 ≤ R.slots) → (ih_ (ab_mi k) ≤ R.frames ∧ 32 * ih_ (ab_mi k) ≤ R.locals) →
      (∀ (i : Instr) (n' pc1 : Nat) (ls1 : List (Option Value)) (st1 : List Value), decode (ib (ab_mi k)) pc1 = .ok (i, n') → (ab_sz i = 0 ∨ n' = ab_sz i) → ab_ex X (ab_mi k) i pc1 ls1 st1 w1 = some (.inr (.inl (v, w1))) → ab_J p l e R s m args below meth c Q (ab_mi k) N E cI cH cS D w0 pc1 ls1 st1 w1) → ab_J p l e R s m args below meth c Q (ab_mi k) N E cI cH cS D w0 0 (ab_ent (iL (ab_mi k)) as) [] w) : ab_MM l X N E cI cH cS D (ab_mi k) as w v w1 := by
  have hck := hc2 k hk
  simp only [ab_ck2, Bool.and_eq_true, decide_eq_true_eq, Bool.or_eq_true, beq_iff_eq, Bool.not_eq_true', beq_eq_false_iff_ne] at hck
  obtain ⟨⟨⟨⟨⟨⟨⟨⟨⟨⟨⟨q1, q2⟩, q3⟩, q4⟩, q5⟩, q6⟩, q7⟩, q8⟩, q9⟩, q10⟩, q11⟩, q12⟩ := hck
  refine Met.ofW (cc := ib (ab_mi k)) (maxL := iL (ab_mi k)) (ret := ir (ab_mi k)) q8 rfl ?_
  intro p e s m args below meth c s₁ B hml hv
  obtain ⟨rfl, hU⟩ := hv
  rw [lg_entry_eq]
  have hts0 := atoms_spec (ws := ab_wl (ab_mi k)) B.pre
  have hts : ∀ x ∈ ab_gw, x.before (as.map (ab_v N E)).toArray s = true := fun x hx => hts0 x (List.mem_cons_of_mem _ hx)
  have hx := B.exec
  have hb := B.bytes
  have hr := B.returns
  have hlocks := B.notSynchronized
  have hB : ab_B p s m (as.map (ab_v N E)).toArray meth c (ab_mi k) X N E cI cH cS D w := ⟨hx, hb, hml, by rw [← q5]; exact findClass_of_methodNamed B.named, hts, hU, (name_of_methodNamed B.named B.method).1, Nat.le_of_ble_eq_true q12, hE, Nat.le_of_ble_eq_true q10⟩
  have hfit' : (lg_sl (as.map (ab_v N E))).length ≤ iL (ab_mi k) := by
    rw [← ab_fm_len hE]
    have : (ab_fm as).length = (lg_sl as).length := by
      have h1 := ab_fm_len (N := N) hE as
      rw [h1]
      unfold lg_sl
      rw [List.flatMap_map]
      clear h1 hU hB hts hts0 B hfit ih
      induction as with
      | nil => rfl
      | cons a as ih =>
        rw [List.flatMap_cons, List.flatMap_cons, List.length_append, List.length_append, ih, ab_v_cat hE]
        split <;> rfl
    rw [this]
    exact hfit
  have key := ih (R := (headSpec (ab_wl (ab_mi k)) (ab_rm (ab_mi k) w w1)).room) (Q := MQ below (ab_Qc N E cI cH cS D v w1) (as.map (ab_v N E)).toArray s (w1.length - w.length) (ab_z w1 - ab_z w) (ab_A N)) (below := below) (e := e) hB ⟨Nat.le_refl _, Nat.le_refl _⟩ ⟨Nat.le_refl _, Nat.le_refl _⟩ ⟨Nat.le_refl _, Nat.le_refl _⟩ (fun i n' pc1 ls1 st1 hdec hn hex => by
    intro H locs lsR hP hz hS hL
    have hq : ∀ t : State, t.heap = H → s.WarmedH t.vm → ab_Qc N E cI cH cS D v w1 (as.map (ab_v N E)).toArray s (.returned (v.map (ab_v N E))) t := fun t ht _ => ⟨rfl, by rw [ht]; exact hP, by rw [ht]; exact hz, hS.F ht⟩
    cases i with
    | ireturn =>
      have hdg := hdec
      rw [hn.resolve_left (fun z => Nat.succ_ne_zero _ z)] at hdg
      simp only [ab_ex] at hex
      split at hex
      next x =>
        split at hex
        next hc =>
          cases hex
          obtain ⟨ty, h1, h2⟩ := ab_rfit_ok hc
          exact W.zret hx hb (hr.trans h1) h2 hq hS.2.2 hdg hlocks
        next => cases hex
      next => cases hex
    | lreturn =>
      have hdg := hdec
      rw [hn.resolve_left (fun z => Nat.succ_ne_zero _ z)] at hdg
      simp only [ab_ex] at hex
      split at hex
      next x =>
        split at hex
        next hc =>
          cases hex
          exact W.lret hx hb (hr.trans (of_decide_eq_true hc)) hq hS.2.2 hdg hlocks
        next => cases hex
      next => cases hex
    | return_ =>
      have hdg := hdec
      rw [hn.resolve_left (fun z => Nat.succ_ne_zero _ z)] at hdg
      simp only [ab_ex] at hex
      split at hex
      next =>
        split at hex
        next hc =>
          cases hex
          exact W.vret hx hb (hr.trans hc) hq hS.2.2 hdg hlocks
        next => cases hex
      next => cases hex
    | areturn =>
      have hdg := hdec
      rw [hn.resolve_left (fun z => Nat.succ_ne_zero _ z)] at hdg
      simp only [ab_ex] at hex
      split at hex
      next x =>
        split at hex
        next nm hc =>
          cases hex
          exact W.aret hx hb (hr.trans hc) (Or.inl ⟨_, rfl⟩) (Or.inr ⟨_, rfl⟩) hq hS.2.2 hdg hlocks
        next => cases hex
      next x =>
        split at hex
        next nm hc =>
          cases hex
          exact W.aret (v := E x) hx hb (hr.trans hc) (Or.inl ⟨_, rfl⟩) (hE x) hq hS.2.2 hdg hlocks
        next => cases hex
      next =>
        split at hex
        next nm hc =>
          cases hex
          exact W.aret hx hb (hr.trans hc) (Or.inl ⟨_, rfl⟩) (Or.inl rfl) hq hS.2.2 hdg hlocks
        next => cases hex
      next => cases hex
    | _ => exact absurd (ab_ex_ret hex).2 (by simp)) s.heap [] _ hU.1 hU.2.1 va_S.rf (ab_entry hE hfit')
  rw [Nat.sub_self, Nat.sub_self] at key
  exact key
theorem ab_main {l : Launch} (hE : ∀ j, E j = .null ∨ ∃ a, E j = .ref a) (hc1 : ∀ k, k < 247 → ab_ck1 (ab_mi k) = true) (hc2 : ∀ k, k < 246 → ab_ck2 (ab_mi k) = true) : ∀ (n k : Nat), k < 247 → ∀ (pc : Nat) (ls : List (Option Value)) (st : List Value) (w : ab_W) (v : Option Value) (w' : ab_W), ab_run X n k pc ls st w = some (v, w') → (w.length ≤ w'.length ∧ ab_z w ≤ ab_z w') ∧
    ∀ {p : Program} {e : Env} {R : Room} {s : State} {m : MethodId} {args : Array Value} {below : List Frame} {meth : Method} {c : Code} {Q : State → Prop} {w0 : ab_W}, ab_B p s m args meth c (ab_mi k) X N E cI cH cS D w0 → (w0.length ≤ w.length ∧ ab_z w0 ≤ ab_z w) → (w'.length - w0.length ≤ R.cells ∧ ab_z w' - ab_z w0 ≤ R.slots) → (ih_ (ab_mi k) ≤ R.frames ∧ 32 * ih_ (ab_mi k) ≤ R.locals) →
      (∀ (i : Instr) (n' pc1 : Nat) (ls1 : List (Option Value)) (st1 : List Value), decode (ib (ab_mi k)) pc1 = .ok (i, n') → (ab_sz i = 0 ∨ n' = ab_sz i) → ab_ex X (ab_mi k) i pc1 ls1 st1 w' = some (.inr (.inl (v, w'))) → ab_J p l e R s m args below meth c Q (ab_mi k) N E cI cH cS D w0 pc1 ls1 st1 w') → ab_J p l e R s m args below meth c Q (ab_mi k) N E cI cH cS D w0 pc ls st w := by
  intro n
  induction n with
  | zero => intro k hk pc ls st w v w' h; cases h
  | succ n ih =>
    intro k hk pc ls st w v w' h
    unfold ab_run at h
    cases hs : ab_stp X (ab_mi k) pc ls st w with
    | none => rw [hs] at h; cases h
    | some q =>
      rw [hs] at h
      unfold ab_stp at hs
      split at hs
      next i n' hlk =>
        have hck := List.all_eq_true.mp (hc1 k hk) _ (ab_lk_mem _ _ _ hlk)
        simp only [Bool.and_eq_true, decide_eq_true_eq, Bool.or_eq_true, beq_iff_eq] at hck
        obtain ⟨hdec, hn⟩ := hck
        match q, hs, h with
        | .inl (pc', ls', st', w1), hs, h =>
          have g1 := ab_grow hs
          obtain ⟨g2, K⟩ := ih k hk pc' ls' st' w1 v w' h
          refine ⟨⟨Nat.le_trans g1.1 g2.1, Nat.le_trans g1.2 g2.2⟩, ?_⟩
          intro p e R s m args below meth c Q w0 B hg hRb hR kret
          have hh1 : 1 ≤ ih_ (ab_mi k) := B.2.2.2.2.2.2.2.2.2
          exact (ab_one B ⟨by omega, by omega⟩ hdec hn hs hg ⟨by omega, by omega⟩ (K B ⟨by omega, by omega⟩ hRb hR kret)).2
        | .inr (.inl (v1, w1)), hs, h =>
          cases h
          have hw : w' = w := (ab_ex_ret hs).1
          subst hw
          refine ⟨⟨Nat.le_refl _, Nat.le_refl _⟩, ?_⟩
          intro p e R s m args below meth c Q w0 B hg hRb hR kret
          exact kret i n' pc ls st hdec hn hs
        | .inr (.inr (k', as, (pc', ls', st', w2))), hs, h =>
          obtain ⟨op, ix, hinv, hop⟩ := ab_ex_call hs
          obtain ⟨rfl, hfit, nest, pl, hl⟩ := ab_inv_w hinv
          have hic : ic (ab_mi k) < 13 ∨ ¬ ic (ab_mi k) < 13 := Classical.em _
          have hk' : k' < 246 := by
            rcases hic with hic | hic
            · have hm1 := List.all_eq_true.mp (List.all_eq_true.mp ab_c3M (ic (ab_mi k)) (List.mem_range.mpr hic)) _ (ab_lk_mem _ _ _ hl)
              simp only [ab_ckM, Bool.and_eq_true] at hm1
              exact Nat.le_of_ble_eq_true hm1.1
            · have : ab_me (ic (ab_mi k)) = [] := by
                unfold ab_me
                rw [List.getD_eq_getElem?_getD, List.getElem?_eq_none (by show 13 ≤ _; omega)]
                rfl
              rw [this] at hl
              cases hl
          dsimp only at h
          cases hr : ab_run X n k' 0 (ab_ent (iL (ab_mi k')) as) [] w2 with
          | none => rw [hr] at h; cases h
          | some r =>
            rw [hr] at h
            obtain ⟨v1, w3⟩ := r
            obtain ⟨g1, K1⟩ := ih k' (by omega) 0 _ [] w2 v1 w3 hr
            obtain ⟨g2, K2⟩ := ih k hk pc' ls' _ w3 v w' h
            refine ⟨⟨Nat.le_trans g1.1 g2.1, Nat.le_trans g1.2 g2.2⟩, ?_⟩
            intro p e R s m args below meth c Q w0 B hg hRb hR kret
            have hM : ab_MM l X N E cI cH cS D (ab_mi k') as w2 v1 w3 := ab_met hE hc2 hk' hfit K1
            refine (ab_callw B hc2 hR hinv (fun e => ?_) (fun e => ?_) (fun e1 e2 => ?_) g1 hg ⟨by omega, by omega⟩ hM (K2 B ⟨by omega, by omega⟩ hRb hR kret)).2
            · rcases hop with ⟨h1, rfl⟩ | ⟨h1, rfl⟩ | ⟨h1, rfl⟩
              · rw [hdec, hn.resolve_left (fun z => Nat.succ_ne_zero _ z)]
                rfl
              · omega
              · omega
            · rcases hop with ⟨h1, rfl⟩ | ⟨h1, rfl⟩ | ⟨h1, rfl⟩
              · omega
              · rw [hdec, hn.resolve_left (fun z => Nat.succ_ne_zero _ z)]
                rfl
              · omega
            · rcases hop with ⟨h1, rfl⟩ | ⟨h1, rfl⟩ | ⟨h1, rfl⟩
              · omega
              · omega
              · rw [hdec, hn.resolve_left (fun z => Nat.succ_ne_zero _ z)]
                rfl
      next => cases hs
end FIVE
