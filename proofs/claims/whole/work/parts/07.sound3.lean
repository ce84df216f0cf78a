section THREE
variable {p : Program} {l : Launch} {e : Env} {R : Room} {s : State} {m : MethodId} {args : Array Value} {below : List Frame} {meth : Method} {c : Code} {Q : State → Prop} {mi : ab_I} {X : List Int32} {N : Nat} {E : Nat → Value} {cI cH cS : ClassId} {D : va_G} {w0 : ab_W}
variable {pc pc' : Nat} {ls ls' : List (Option Value)} {st st' : List Value} {w w' : ab_W}
theorem ab_cat_sum (hE : ∀ j, E j = .null ∨ ∃ a, E j = .ref a) (st : List Value) : ((st.map (ab_v N E)).map fun v => v.category).sum = (st.map Value.category).sum := by
  rw [List.map_map]
  congr 1
  apply List.map_congr_left
  intro a _
  exact ab_v_cat hE a
theorem ab_ckWat {cn : Nat} (h : cn < 13) : ((ab_nw cn).all (fun e => Nat.blt e.2.1 7 && decide (lw_tbl[e.2.2]? = some (.classLink (ab_nm cn) e.1 (ab_nm e.2.1)))) = true ∧
  (ab_na cn).all (fun e => decide (lw_tbl[e.2.2]? = some (.classLink (ab_nm cn) e.1 (ab_nm (ab_el e.2.1))))) = true ∧
  (ab_ki cn).all (fun e => decide (lw_tbl[e.2.2]? = some (.constant (ab_nm cn) e.1 e.2.1))) = true ∧
  (ab_kl cn).all (fun e => decide (lw_tbl[e.2.2]? = some (.constantLong (ab_nm cn) e.1 e.2.1))) = true ∧
  (ab_ks cn).all (fun e => Nat.beq cn 4 && Nat.blt e.2.1 17) = true) ∧
  (ab_st cn).all (fun e => decide (lw_tbl[e.2.2]? = some (match e.2.1 with
    | 0 => .fieldLink (ab_nm cn) e.1 "StairRow$House" "ABOVE" "[I"
    | 1 => .fieldLink (ab_nm cn) e.1 "java/lang/String" "COMPACT_STRINGS" "Z"
    | _ => .fieldLink (ab_nm cn) e.1 "jdk/internal/util/Preconditions" "SIOOBE_FORMATTER" "Ljava/util/function/BiFunction;"))) = true ∧
  (ab_ob cn).all (fun e => decide (lw_tbl[e.2]? = some (.methodLink (ab_nm cn) e.1 Lib.objectInit))) = true ∧
  (ab_ac cn).all (fun e => decide (lw_tbl[e.2]? = some (.methodLink (ab_nm cn) e.1 arraycopyName))) = true ∧
  (ab_mx cn).all (fun e => decide (lw_tbl[e.2.2]? = some (.methodLink (ab_nm cn) e.1 (match e.2.1 with | 0 => Lib.Math.max.name | _ => Lib.Math.min.name)))) = true := by
  have h1 := List.all_eq_true.mp ab_c3W cn (List.mem_range.mpr h)
  simp only [ab_ckW, Bool.and_eq_true] at h1
  obtain ⟨⟨⟨⟨⟨⟨⟨⟨a1, a2⟩, a3⟩, a4⟩, a5⟩, a6⟩, a7⟩, a8⟩, a9⟩ := h1
  exact ⟨⟨a1, a2, a3, a4, a5⟩, a6, a7, a8, a9⟩
theorem ab_cpyw (B : ab_B p s m args meth c mi X N E cI cH cS D w0) (hR : 1 ≤ R.frames ∧ 32 ≤ R.locals) (hg : w0.length ≤ w.length) {ix pl : Nat} (hl : ab_lk (ab_ac (ic mi)) ix = some pl) (h : ab_cpy pc ls st w = some (.inl (pc', ls', st', w'))) (hdg : decode (ib mi) pc = .ok (.invokestatic ix, 3)) (k : ab_J p l e R s m args below meth c Q mi N E cI cH cS D w0 pc' ls' st' w') : w'.length = w.length ∧ ab_z w' = ab_z w ∧ ab_J p l e R s m args below meth c Q mi N E cI cH cS D w0 pc ls st w := by
  have B' := B
  obtain ⟨hx, hb, hml, hown, hts, hU, hnm, hcl, hE, hh1⟩ := B
  obtain ⟨-, hsz, hK, -, -, hN, hX2⟩ := hU
  have hlk : lw_tbl[pl]? = some (.methodLink (ab_nm (ic mi)) ix arraycopyName) := of_decide_eq_true (List.all_eq_true.mp (ab_ckWat hcl).2.2.2.1 _ (ab_lk_mem _ _ _ hl))
  unfold ab_cpy at h
  split at h
  next n dp a sp a0 st0 =>
    split at h
    next xs ys hw0 hw1 =>
      split at h
      next hc =>
        obtain ⟨rfl, rfl, rfl, rfl⟩ := ab_nxe h
        simp only [Bool.and_eq_true, Bool.not_eq_true', decide_eq_false_iff_not, decide_eq_true_eq] at hc
        obtain ⟨⟨⟨⟨⟨c1, c2⟩, c3⟩, c4⟩, c5⟩, c6⟩ := hc
        have c4 := Nat.le_of_ble_eq_true c4
        have c5 := Nat.le_of_ble_eq_true c5
        have hsl : ab_sl (.inr ((List.range ys.length).map (va_cpy (fun j => xs.getD j 0) (fun j => ys.getD j 0) sp.toNatClampNeg dp.toNatClampNeg n.toNatClampNeg))) = ab_sl (.inr ys) := by simp [ab_sl]
        refine ⟨List.length_set, ab_z_set hw1 hsl, fun H locs lsR hP hz hS hL => ?_⟩
        have hD := ab_ws_D (N := N) (E := E) (cI := cI) (cH := cH) (cS := cS) w
        have hsum : ((st0.map (ab_v N E)).map fun v => v.category).sum ≤ 8 := by rw [ab_cat_sum hE]; exact c6
        have hloc : ((st0.map (ab_v N E)).map fun v => v.category).sum + (nativeFrameWords "java/lang/System" "arraycopy" 5 + 11) ≤ R.locals := by
          have h7 : nativeFrameWords "java/lang/System" "arraycopy" 5 = 7 := by decide
          omega
        refine va_copyi (ty := .int) hx hb (by rw [hml]; exact hL.2.1.symm) hown (hts _ (ab_gwM hlk rfl)) (hts _ (ab_gwM (i := 901) (by decide +kernel) rfl)) (hts _ (ab_gwM (i := 900) (by decide +kernel) rfl)) (hts _ (ab_gwM (i := 132) (by decide +kernel) rfl)) hK hP hD hS a0 a 0 0 (ab_ws_get hw0) (ab_ws_get hw1) rfl rfl rfl c1 c2 c3 c4 c5 (fun _ _ => rfl) hR.1 hloc hdg fun H1 locs1 q1 q2 q3 => ?_
        refine ab_J_set B' hg hw1 hsl k ?_ q3 hL
        rw [ab_e_i, List.length_map, List.length_range]
        have e1 : (fun j => ((List.range ys.length).map (va_cpy (fun j => xs.getD j 0) (fun j => ys.getD j 0) sp.toNatClampNeg dp.toNatClampNeg n.toNatClampNeg)).getD j 0) = va_cpy (fun j => xs.getD j 0) (fun j => ys.getD j 0) sp.toNatClampNeg dp.toNatClampNeg n.toNatClampNeg := by
          funext j
          by_cases hj : j < ys.length
          · simp [hj]
          · have hno : ¬ (dp.toNatClampNeg ≤ j ∧ j < dp.toNatClampNeg + n.toNatClampNeg) := by omega
            simp only [List.getD_eq_getElem?_getD, List.getElem?_map, va_cpy, if_neg hno]
            rw [List.getElem?_eq_none (by simp; omega), List.getElem?_eq_none (by omega)]
            rfl
        rw [e1]
        exact q1
      next => cases h
    next => cases h
  next => cases h
theorem ab_ldaw (B : ab_B p s m args meth c mi X N E cI cH cS D w0) {k : Nat} {n : Nat} (h : ab_lda ls k (pc + n) st w = some (.inl (pc', ls', st', w'))) (kk : ab_J p l e R s m args below meth c Q mi N E cI cH cS D w0 pc' ls' st' w') (row : ∀ {H : Heap} {locs : List Loc} {lsR : Array Slot} {x : Value}, lsR[k]? = some (.val x) → (x = .null ∨ ∃ a, x = .ref a) → W p l e R s m args below meth c H locs (w.length - w0.length) (ab_z w - ab_z w0) Q (F0 m (pc + n) lsR (x :: st.map (ab_v N E))) → W p l e R s m args below meth c H locs (w.length - w0.length) (ab_z w - ab_z w0) Q (F0 m pc lsR (st.map (ab_v N E)))) : w' = w ∧ ab_J p l e R s m args below meth c Q mi N E cI cH cS D w0 pc ls st w := by
  obtain ⟨hx, hb, hml, hown, hts, hU, hnm, hcl, hE, hh1⟩ := B
  unfold ab_lda at h
  split at h
  next r hr =>
    obtain ⟨rfl, rfl, rfl, rfl⟩ := ab_nxe h
    exact ⟨rfl, fun H locs lsR hP hz hS hL => row (ab_L_at hL hr) (Or.inr ⟨_, rfl⟩) (kk H locs lsR hP hz hS hL)⟩
  next hr =>
    obtain ⟨rfl, rfl, rfl, rfl⟩ := ab_nxe h
    exact ⟨rfl, fun H locs lsR hP hz hS hL => row (ab_L_at hL hr) (Or.inl rfl) (kk H locs lsR hP hz hS hL)⟩
  next r hr =>
    obtain ⟨rfl, rfl, rfl, rfl⟩ := ab_nxe h
    exact ⟨rfl, fun H locs lsR hP hz hS hL => row (ab_L_at hL hr) (hE r) (kk H locs lsR hP hz hS hL)⟩
  next => cases h
theorem ab_staw (B : ab_B p s m args meth c mi X N E cI cH cS D w0) {k : Nat} {n : Nat} (h : ab_sta ls k (pc + n) st w = some (.inl (pc', ls', st', w'))) (kk : ab_J p l e R s m args below meth c Q mi N E cI cH cS D w0 pc' ls' st' w') (row : ∀ {H : Heap} {locs : List Loc} {lsR : Array Slot} {x : Value} {rest : List Value}, (x = .null ∨ ∃ a, x = .ref a) → lv_has lsR (iL mi) (ab_ll N E ls) → k < iL mi → (∀ lsR' : Array Slot, lv_has lsR' (iL mi) ((k, x) :: (ab_ll N E ls).filter (fun q => !(q.1 == k) && !(q.1 + 1 == k && q.2.category == 2))) → W p l e R s m args below meth c H locs (w.length - w0.length) (ab_z w - ab_z w0) Q (F0 m (pc + n) lsR' rest)) → W p l e R s m args below meth c H locs (w.length - w0.length) (ab_z w - ab_z w0) Q (F0 m pc lsR (x :: rest))) : w' = w ∧ ab_J p l e R s m args below meth c Q mi N E cI cH cS D w0 pc ls st w := by
  obtain ⟨hx, hb, hml, hown, hts, hU, hnm, hcl, hE, hh1⟩ := B
  unfold ab_sta at h
  split at h
  next r st0 =>
    split at h
    next ls1 hs =>
      obtain ⟨rfl, rfl, rfl, rfl⟩ := ab_nxe h
      exact ⟨rfl, fun H locs lsR hP hz hS hL => row (Or.inr ⟨_, rfl⟩) hL.2 (Nat.lt_of_lt_of_le (ab_set1_lt hs) hL.1) fun lsR' h' => kk H locs lsR' hP hz hS (ab_L_set1 hE hs hL.1 h')⟩
    next => cases h
  next st0 =>
    split at h
    next ls1 hs =>
      obtain ⟨rfl, rfl, rfl, rfl⟩ := ab_nxe h
      exact ⟨rfl, fun H locs lsR hP hz hS hL => row (Or.inl rfl) hL.2 (Nat.lt_of_lt_of_le (ab_set1_lt hs) hL.1) fun lsR' h' => kk H locs lsR' hP hz hS (ab_L_set1 hE hs hL.1 h')⟩
    next => cases h
  next r st0 =>
    split at h
    next ls1 hs =>
      obtain ⟨rfl, rfl, rfl, rfl⟩ := ab_nxe h
      exact ⟨rfl, fun H locs lsR hP hz hS hL => row (hE r) hL.2 (Nat.lt_of_lt_of_le (ab_set1_lt hs) hL.1) fun lsR' h' => kk H locs lsR' hP hz hS (ab_L_set1 hE hs hL.1 h')⟩
    next => cases h
  next => cases h
theorem ab_wf_no {nL : Nat} {lsR : Array Slot} {lv : List (Nat × Value)} (h : lv_has lsR nL lv) {q : Nat × Value} {j : Nat} {u : Value} (h1 : q ∈ lv) (h2 : (j, u) ∈ lv) (h3 : q.1 + 1 = j) : q.2.category ≠ 2 := by
  intro hc
  have a := h.2.1.1 q.1 q.2 (h.2.2 q h1) hc
  have b := h.2.2 _ h2
  rw [h3] at a
  cases a.symm.trans b
theorem ab_inv_no (mi : ab_I) (op pc ix : Nat) (ls : List (Option Value)) (st : List Value) (w : ab_W) (c' : ab_C) : ¬ ab_inv mi op pc ix ls st w = some (.inl c') := by
  intro h
  unfold ab_inv at h
  repeat' split at h
  all_goals cases h
theorem ab_one (B : ab_B p s m args meth c mi X N E cI cH cS D w0) (hR : 1 ≤ R.frames ∧ 32 ≤ R.locals) {i : Instr} {n : Nat} (hdec : decode (ib mi) pc = .ok (i, n)) (hn : ab_sz i = 0 ∨ n = ab_sz i) (h : ab_ex X mi i pc ls st w = some (.inl (pc', ls', st', w'))) (hg : w0.length ≤ w.length ∧ ab_z w0 ≤ ab_z w) (hRb : w'.length - w0.length ≤ R.cells ∧ ab_z w' - ab_z w0 ≤ R.slots) (k : ab_J p l e R s m args below meth c Q mi N E cI cH cS D w0 pc' ls' st' w') : (w.length ≤ w'.length ∧ ab_z w ≤ ab_z w') ∧ ab_J p l e R s m args below meth c Q mi N E cI cH cS D w0 pc ls st w := by
  have B' := B
  obtain ⟨hx, hb, hml, hown, hts, hU, hnm, hcl, hE, hh1⟩ := B
  cases i with
  | iconst v =>
    have hdg := hdec
    rw [hn.resolve_left (fun z => Nat.succ_ne_zero _ z)] at hdg
    simp only [ab_ex] at h
    obtain ⟨rfl, rfl, rfl, rfl⟩ := ab_nxe h
    exact ⟨⟨Nat.le_refl _, Nat.le_refl _⟩, fun H locs lsR hP hz hS hL => lv_iconst hx hb hdg rfl (k H locs lsR hP hz hS hL)⟩
  | bipush v =>
    have hdg := hdec
    rw [hn.resolve_left (fun z => Nat.succ_ne_zero _ z)] at hdg
    simp only [ab_ex] at h
    obtain ⟨rfl, rfl, rfl, rfl⟩ := ab_nxe h
    exact ⟨⟨Nat.le_refl _, Nat.le_refl _⟩, fun H locs lsR hP hz hS hL => lv_bipush hx hb hdg rfl (k H locs lsR hP hz hS hL)⟩
  | sipush v =>
    have hdg := hdec
    rw [hn.resolve_left (fun z => Nat.succ_ne_zero _ z)] at hdg
    simp only [ab_ex] at h
    obtain ⟨rfl, rfl, rfl, rfl⟩ := ab_nxe h
    exact ⟨⟨Nat.le_refl _, Nat.le_refl _⟩, fun H locs lsR hP hz hS hL => lv_sipush hx hb hdg rfl (k H locs lsR hP hz hS hL)⟩
  | lconst v =>
    have hdg := hdec
    rw [hn.resolve_left (fun z => Nat.succ_ne_zero _ z)] at hdg
    simp only [ab_ex] at h
    obtain ⟨rfl, rfl, rfl, rfl⟩ := ab_nxe h
    exact ⟨⟨Nat.le_refl _, Nat.le_refl _⟩, fun H locs lsR hP hz hS hL => lv_lconst hx hb hdg rfl (k H locs lsR hP hz hS hL)⟩
  | aconst_null  =>
    have hdg := hdec
    rw [hn.resolve_left (fun z => Nat.succ_ne_zero _ z)] at hdg
    simp only [ab_ex] at h
    obtain ⟨rfl, rfl, rfl, rfl⟩ := ab_nxe h
    exact ⟨⟨Nat.le_refl _, Nat.le_refl _⟩, fun H locs lsR hP hz hS hL => lv_null hx hb hdg (k H locs lsR hP hz hS hL)⟩
  | ldc ix =>
    have hdg := hdec
    rw [hn.resolve_left (fun z => Nat.succ_ne_zero _ z)] at hdg
    simp only [ab_ex] at h
    split at h
    next v pl hl =>
      obtain ⟨rfl, rfl, rfl, rfl⟩ := ab_nxe h
      have hk : lw_tbl[pl]? = some (.constant (ab_nm (ic mi)) ix v) := of_decide_eq_true (List.all_eq_true.mp (ab_ckWat hcl).1.2.2.1 _ (ab_lk_mem _ _ _ hl))
      exact ⟨⟨Nat.le_refl _, Nat.le_refl _⟩, fun H locs lsR hP hz hS hL => lv_ldc hx hb hown (hts _ (ab_gwM hk rfl)) hdg (k H locs lsR hP hz hS hL)⟩
    next =>
      split at h
      next j pl hl =>
        obtain ⟨rfl, rfl, rfl, rfl⟩ := ab_nxe h
        have hm := ab_lk_mem _ _ _ hl
        have hk := List.all_eq_true.mp (ab_ckWat hcl).1.2.2.2.2 _ hm
        simp only [Bool.and_eq_true] at hk
        have hc4 : ic mi = 4 := Nat.eq_of_beq_eq_true hk.1
        have hj : j < 17 := Nat.le_of_ble_eq_true hk.2
        obtain ⟨-, -, -, -, -, -, -, -, ⟨adK, adV, k1, k2, k3⟩, -, -⟩ := hU
        rw [hc4] at hm hown
        refine ⟨⟨Nat.le_refl _, Nat.le_refl _⟩, fun H locs lsR hP hz hS hL => ?_⟩
        have := k H locs lsR hP hz hS hL
        have e1 : (Value.retAddr (10 + j) :: st).map (ab_v N E) = .ref (adK j) :: st.map (ab_v N E) := by rw [← (k2 j hj).1]; rfl
        rw [e1] at this
        exact va_ldcS hx hb hown (k3 _ hm) hdg this
      next => cases h
  | ldc_w ix =>
    have hdg := hdec
    rw [hn.resolve_left (fun z => Nat.succ_ne_zero _ z)] at hdg
    simp only [ab_ex] at h
    split at h
    next v pl hl =>
      obtain ⟨rfl, rfl, rfl, rfl⟩ := ab_nxe h
      have hk : lw_tbl[pl]? = some (.constant (ab_nm (ic mi)) ix v) := of_decide_eq_true (List.all_eq_true.mp (ab_ckWat hcl).1.2.2.1 _ (ab_lk_mem _ _ _ hl))
      exact ⟨⟨Nat.le_refl _, Nat.le_refl _⟩, fun H locs lsR hP hz hS hL => lv_ldcw hx hb hown (hts _ (ab_gwM hk rfl)) hdg (k H locs lsR hP hz hS hL)⟩
    next => cases h
  | ldc2_w ix =>
    have hdg := hdec
    rw [hn.resolve_left (fun z => Nat.succ_ne_zero _ z)] at hdg
    simp only [ab_ex] at h
    split at h
    next v pl hl =>
      obtain ⟨rfl, rfl, rfl, rfl⟩ := ab_nxe h
      have hk : lw_tbl[pl]? = some (.constantLong (ab_nm (ic mi)) ix v) := of_decide_eq_true (List.all_eq_true.mp (ab_ckWat hcl).1.2.2.2.1 _ (ab_lk_mem _ _ _ hl))
      exact ⟨⟨Nat.le_refl _, Nat.le_refl _⟩, fun H locs lsR hP hz hS hL => lv_ldc2 hx hb hown (hts _ (ab_gwM hk rfl)) hdg (k H locs lsR hP hz hS hL)⟩
    next => cases h
  | iload_n j =>
    have hdg := hdec
    rw [hn.resolve_left (fun z => Nat.succ_ne_zero _ z)] at hdg
    simp only [ab_ex, ab_ldi] at h
    split at h
    next x hr =>
      obtain ⟨rfl, rfl, rfl, rfl⟩ := ab_nxe h
      exact ⟨⟨Nat.le_refl _, Nat.le_refl _⟩, fun H locs lsR hP hz hS hL => lv_iload_n hx hb hdg rfl (ab_L_at hL hr) (k H locs lsR hP hz hS hL)⟩
    next => cases h
  | iload j =>
    have hdg := hdec
    rw [hn.resolve_left (fun z => Nat.succ_ne_zero _ z)] at hdg
    simp only [ab_ex, ab_ldi] at h
    split at h
    next x hr =>
      obtain ⟨rfl, rfl, rfl, rfl⟩ := ab_nxe h
      exact ⟨⟨Nat.le_refl _, Nat.le_refl _⟩, fun H locs lsR hP hz hS hL => lv_iload hx hb hdg (ab_L_at hL hr) (k H locs lsR hP hz hS hL)⟩
    next => cases h
  | lload_n j =>
    have hdg := hdec
    rw [hn.resolve_left (fun z => Nat.succ_ne_zero _ z)] at hdg
    simp only [ab_ex, ab_ldl] at h
    split at h
    next x hr =>
      obtain ⟨rfl, rfl, rfl, rfl⟩ := ab_nxe h
      exact ⟨⟨Nat.le_refl _, Nat.le_refl _⟩, fun H locs lsR hP hz hS hL => lv_lload_n hx hb hdg rfl (ab_L_at hL hr) (k H locs lsR hP hz hS hL)⟩
    next => cases h
  | lload j =>
    have hdg := hdec
    rw [hn.resolve_left (fun z => Nat.succ_ne_zero _ z)] at hdg
    simp only [ab_ex, ab_ldl] at h
    split at h
    next x hr =>
      obtain ⟨rfl, rfl, rfl, rfl⟩ := ab_nxe h
      exact ⟨⟨Nat.le_refl _, Nat.le_refl _⟩, fun H locs lsR hP hz hS hL => lv_lload hx hb hdg (ab_L_at hL hr) (k H locs lsR hP hz hS hL)⟩
    next => cases h
  | aload_n j =>
    have hdg := hdec
    rw [hn.resolve_left (fun z => Nat.succ_ne_zero _ z)] at hdg
    simp only [ab_ex] at h
    obtain ⟨rfl, hJ⟩ := ab_ldaw (n := 1) B' h k (fun hr hx2 kk => by
      rcases hx2 with rfl | ⟨a, rfl⟩
      · exact lv_aload_nN hx hb hdg rfl hr kk
      · exact lv_aload_n hx hb hdg rfl hr kk)
    exact ⟨⟨Nat.le_refl _, Nat.le_refl _⟩, hJ⟩
  | aload j =>
    have hdg := hdec
    rw [hn.resolve_left (fun z => Nat.succ_ne_zero _ z)] at hdg
    simp only [ab_ex] at h
    obtain ⟨rfl, hJ⟩ := ab_ldaw (n := 2) B' h k (fun hr hx2 kk => by
      rcases hx2 with rfl | ⟨a, rfl⟩
      · exact lv_aloadN hx hb hdg hr kk
      · exact lv_aload hx hb hdg hr kk)
    exact ⟨⟨Nat.le_refl _, Nat.le_refl _⟩, hJ⟩
  | istore_n j =>
    have hdg := hdec
    rw [hn.resolve_left (fun z => Nat.succ_ne_zero _ z)] at hdg
    simp only [ab_ex, ab_sti] at h
    split at h
    next x st0 =>
      split at h
      next ls1 hs =>
        obtain ⟨rfl, rfl, rfl, rfl⟩ := ab_nxe h
        exact ⟨⟨Nat.le_refl _, Nat.le_refl _⟩, fun H locs lsR hP hz hS hL => lv_istore_n hx hb hdg rfl hL.2 (Nat.lt_of_lt_of_le (ab_set1_lt hs) hL.1) rfl fun lsR' h' => k H locs lsR' hP hz hS (ab_L_set1 hE hs hL.1 h')⟩
      next => cases h
    next => cases h
  | istore j =>
    have hdg := hdec
    rw [hn.resolve_left (fun z => Nat.succ_ne_zero _ z)] at hdg
    simp only [ab_ex, ab_sti] at h
    split at h
    next x st0 =>
      split at h
      next ls1 hs =>
        obtain ⟨rfl, rfl, rfl, rfl⟩ := ab_nxe h
        exact ⟨⟨Nat.le_refl _, Nat.le_refl _⟩, fun H locs lsR hP hz hS hL => lv_istore hx hb hdg hL.2 (Nat.lt_of_lt_of_le (ab_set1_lt hs) hL.1) rfl fun lsR' h' => k H locs lsR' hP hz hS (ab_L_set1 hE hs hL.1 h')⟩
      next => cases h
    next => cases h
  | lstore_n j =>
    have hdg := hdec
    rw [hn.resolve_left (fun z => Nat.succ_ne_zero _ z)] at hdg
    simp only [ab_ex, ab_stl] at h
    split at h
    next x st0 =>
      split at h
      next ls1 hs =>
        obtain ⟨rfl, rfl, rfl, rfl⟩ := ab_nxe h
        exact ⟨⟨Nat.le_refl _, Nat.le_refl _⟩, fun H locs lsR hP hz hS hL => lv_lstore_n hx hb hdg rfl hL.2 (Nat.lt_of_lt_of_le (ab_set2_lt hs) hL.1) rfl fun lsR' h' => k H locs lsR' hP hz hS (ab_L_set2 hE hs hL.1 h')⟩
      next => cases h
    next => cases h
  | astore_n j =>
    have hdg := hdec
    rw [hn.resolve_left (fun z => Nat.succ_ne_zero _ z)] at hdg
    simp only [ab_ex] at h
    obtain ⟨rfl, hJ⟩ := ab_staw (n := 1) B' h k (fun hx2 hl hlt kk => by
      rcases hx2 with rfl | ⟨a, rfl⟩
      · exact lv_astore_nN hx hb hdg rfl hl hlt rfl kk
      · exact lv_astore_n hx hb hdg rfl hl hlt rfl kk)
    exact ⟨⟨Nat.le_refl _, Nat.le_refl _⟩, hJ⟩
  | astore j =>
    have hdg := hdec
    rw [hn.resolve_left (fun z => Nat.succ_ne_zero _ z)] at hdg
    simp only [ab_ex] at h
    obtain ⟨rfl, hJ⟩ := ab_staw (n := 2) B' h k (fun hx2 hl hlt kk => by
      rcases hx2 with rfl | ⟨a, rfl⟩
      · exact lv_astoreN hx hb hdg hl hlt rfl kk
      · exact lv_astore hx hb hdg hl hlt rfl kk)
    exact ⟨⟨Nat.le_refl _, Nat.le_refl _⟩, hJ⟩
  | iinc j d =>
    have hdg := hdec
    rw [hn.resolve_left (fun z => Nat.succ_ne_zero _ z)] at hdg
    simp only [ab_ex] at h
    split at h
    next x hr =>
      obtain ⟨rfl, rfl, rfl, rfl⟩ := ab_nxe h
      refine ⟨⟨Nat.le_refl _, Nat.le_refl _⟩, fun H locs lsR hP hz hS hL => ?_⟩
      have hm := ab_ll_mem (N := N) (E := E) hr
      obtain ⟨q, hq⟩ := List.getElem?_of_mem hm
      have hjl : j < ls.length := (List.getElem?_eq_some_iff.mp hr).1
      refine lv_iinc hx hb hdg hL.2 hq rfl (Nat.lt_of_lt_of_le hjl hL.1) rfl fun lsR' h' => k H locs lsR' hP hz hS ⟨by rw [List.length_set]; exact hL.1, h'.1, h'.2.1, fun q hq => ?_⟩
      obtain ⟨u, h1, h2⟩ := ab_ll_of hq
      refine h'.2.2 q ?_
      by_cases hj : j = q.1
      · rw [List.getElem?_set, if_pos hj, if_pos (hj ▸ hjl)] at h1
        cases h1
        obtain ⟨q1, q2⟩ := q
        dsimp only at hj h2
        subst hj; subst h2
        exact List.mem_cons_self
      · rw [List.getElem?_set, if_neg hj] at h1
        have h3 := ab_ll_mem (N := N) (E := E) h1
        rw [← h2] at h3
        refine List.mem_cons_of_mem _ (List.mem_filter.mpr ⟨h3, ?_⟩)
        have hne : (q.1 == j) = false := by simp; omega
        rw [hne]
        simp only [Bool.not_false, Bool.true_and, Bool.not_eq_true', Bool.and_eq_false_iff]
        by_cases h4 : q.1 + 1 = j
        · right
          simpa using ab_wf_no hL.2 h3 hm h4
        · left
          simp; exact h4
    next => cases h
  | iadd =>
    have hdg := hdec
    rw [hn.resolve_left (fun z => Nat.succ_ne_zero _ z)] at hdg
    simp only [ab_ex] at h
    split at h
    next y x st0 =>
      obtain ⟨rfl, rfl, rfl, rfl⟩ := ab_nxe h
      exact ⟨⟨Nat.le_refl _, Nat.le_refl _⟩, fun H locs lsR hP hz hS hL => lv_iadd hx hb hdg (k H locs lsR hP hz hS hL)⟩
    next => cases h
  | isub =>
    have hdg := hdec
    rw [hn.resolve_left (fun z => Nat.succ_ne_zero _ z)] at hdg
    simp only [ab_ex] at h
    split at h
    next y x st0 =>
      obtain ⟨rfl, rfl, rfl, rfl⟩ := ab_nxe h
      exact ⟨⟨Nat.le_refl _, Nat.le_refl _⟩, fun H locs lsR hP hz hS hL => lv_isub hx hb hdg (k H locs lsR hP hz hS hL)⟩
    next => cases h
  | imul =>
    have hdg := hdec
    rw [hn.resolve_left (fun z => Nat.succ_ne_zero _ z)] at hdg
    simp only [ab_ex] at h
    split at h
    next y x st0 =>
      obtain ⟨rfl, rfl, rfl, rfl⟩ := ab_nxe h
      exact ⟨⟨Nat.le_refl _, Nat.le_refl _⟩, fun H locs lsR hP hz hS hL => lv_imul hx hb hdg (k H locs lsR hP hz hS hL)⟩
    next => cases h
  | iand =>
    have hdg := hdec
    rw [hn.resolve_left (fun z => Nat.succ_ne_zero _ z)] at hdg
    simp only [ab_ex] at h
    split at h
    next y x st0 =>
      obtain ⟨rfl, rfl, rfl, rfl⟩ := ab_nxe h
      exact ⟨⟨Nat.le_refl _, Nat.le_refl _⟩, fun H locs lsR hP hz hS hL => lv_iand hx hb hdg (k H locs lsR hP hz hS hL)⟩
    next => cases h
  | ior =>
    have hdg := hdec
    rw [hn.resolve_left (fun z => Nat.succ_ne_zero _ z)] at hdg
    simp only [ab_ex] at h
    split at h
    next y x st0 =>
      obtain ⟨rfl, rfl, rfl, rfl⟩ := ab_nxe h
      exact ⟨⟨Nat.le_refl _, Nat.le_refl _⟩, fun H locs lsR hP hz hS hL => lv_ior hx hb hdg (k H locs lsR hP hz hS hL)⟩
    next => cases h
  | ixor =>
    have hdg := hdec
    rw [hn.resolve_left (fun z => Nat.succ_ne_zero _ z)] at hdg
    simp only [ab_ex] at h
    split at h
    next y x st0 =>
      obtain ⟨rfl, rfl, rfl, rfl⟩ := ab_nxe h
      exact ⟨⟨Nat.le_refl _, Nat.le_refl _⟩, fun H locs lsR hP hz hS hL => lv_ixor hx hb hdg (k H locs lsR hP hz hS hL)⟩
    next => cases h
  | ishl =>
    have hdg := hdec
    rw [hn.resolve_left (fun z => Nat.succ_ne_zero _ z)] at hdg
    simp only [ab_ex] at h
    split at h
    next y x st0 =>
      obtain ⟨rfl, rfl, rfl, rfl⟩ := ab_nxe h
      exact ⟨⟨Nat.le_refl _, Nat.le_refl _⟩, fun H locs lsR hP hz hS hL => lv_ishl hx hb hdg (k H locs lsR hP hz hS hL)⟩
    next => cases h
  | ishr =>
    have hdg := hdec
    rw [hn.resolve_left (fun z => Nat.succ_ne_zero _ z)] at hdg
    simp only [ab_ex] at h
    split at h
    next y x st0 =>
      obtain ⟨rfl, rfl, rfl, rfl⟩ := ab_nxe h
      exact ⟨⟨Nat.le_refl _, Nat.le_refl _⟩, fun H locs lsR hP hz hS hL => lv_ishr hx hb hdg (k H locs lsR hP hz hS hL)⟩
    next => cases h
  | iushr =>
    have hdg := hdec
    rw [hn.resolve_left (fun z => Nat.succ_ne_zero _ z)] at hdg
    simp only [ab_ex] at h
    split at h
    next y x st0 =>
      obtain ⟨rfl, rfl, rfl, rfl⟩ := ab_nxe h
      exact ⟨⟨Nat.le_refl _, Nat.le_refl _⟩, fun H locs lsR hP hz hS hL => lv_iushr hx hb hdg rfl (k H locs lsR hP hz hS hL)⟩
    next => cases h
  | idiv =>
    have hdg := hdec
    rw [hn.resolve_left (fun z => Nat.succ_ne_zero _ z)] at hdg
    simp only [ab_ex] at h
    split at h
    next y x st0 =>
      split at h
      next => cases h
      next hy =>
        obtain ⟨rfl, rfl, rfl, rfl⟩ := ab_nxe h
        exact ⟨⟨Nat.le_refl _, Nat.le_refl _⟩, fun H locs lsR hP hz hS hL => lv_idiv hx hb hdg (of_decide_eq_false hy) (k H locs lsR hP hz hS hL)⟩
    next => cases h
  | irem =>
    have hdg := hdec
    rw [hn.resolve_left (fun z => Nat.succ_ne_zero _ z)] at hdg
    simp only [ab_ex] at h
    split at h
    next y x st0 =>
      split at h
      next => cases h
      next hy =>
        obtain ⟨rfl, rfl, rfl, rfl⟩ := ab_nxe h
        exact ⟨⟨Nat.le_refl _, Nat.le_refl _⟩, fun H locs lsR hP hz hS hL => lv_irem hx hb hdg (of_decide_eq_false hy) (k H locs lsR hP hz hS hL)⟩
    next => cases h
  | i2b =>
    have hdg := hdec
    rw [hn.resolve_left (fun z => Nat.succ_ne_zero _ z)] at hdg
    simp only [ab_ex] at h
    split at h
    next x st0 =>
      obtain ⟨rfl, rfl, rfl, rfl⟩ := ab_nxe h
      exact ⟨⟨Nat.le_refl _, Nat.le_refl _⟩, fun H locs lsR hP hz hS hL => lv_i2b hx hb hdg rfl (k H locs lsR hP hz hS hL)⟩
    next => cases h
  | i2s =>
    have hdg := hdec
    rw [hn.resolve_left (fun z => Nat.succ_ne_zero _ z)] at hdg
    simp only [ab_ex] at h
    split at h
    next x st0 =>
      obtain ⟨rfl, rfl, rfl, rfl⟩ := ab_nxe h
      exact ⟨⟨Nat.le_refl _, Nat.le_refl _⟩, fun H locs lsR hP hz hS hL => lv_i2s hx hb hdg rfl (k H locs lsR hP hz hS hL)⟩
    next => cases h
  | i2c =>
    have hdg := hdec
    rw [hn.resolve_left (fun z => Nat.succ_ne_zero _ z)] at hdg
    simp only [ab_ex] at h
    split at h
    next x st0 =>
      obtain ⟨rfl, rfl, rfl, rfl⟩ := ab_nxe h
      exact ⟨⟨Nat.le_refl _, Nat.le_refl _⟩, fun H locs lsR hP hz hS hL => lv_i2c hx hb hdg rfl (k H locs lsR hP hz hS hL)⟩
    next => cases h
  | i2l =>
    have hdg := hdec
    rw [hn.resolve_left (fun z => Nat.succ_ne_zero _ z)] at hdg
    simp only [ab_ex] at h
    split at h
    next x st0 =>
      obtain ⟨rfl, rfl, rfl, rfl⟩ := ab_nxe h
      exact ⟨⟨Nat.le_refl _, Nat.le_refl _⟩, fun H locs lsR hP hz hS hL => lv_i2l hx hb hdg rfl (k H locs lsR hP hz hS hL)⟩
    next => cases h
  | ladd =>
    have hdg := hdec
    rw [hn.resolve_left (fun z => Nat.succ_ne_zero _ z)] at hdg
    simp only [ab_ex] at h
    split at h
    next y x st0 =>
      obtain ⟨rfl, rfl, rfl, rfl⟩ := ab_nxe h
      exact ⟨⟨Nat.le_refl _, Nat.le_refl _⟩, fun H locs lsR hP hz hS hL => lv_ladd hx hb hdg (k H locs lsR hP hz hS hL)⟩
    next => cases h
  | lmul =>
    have hdg := hdec
    rw [hn.resolve_left (fun z => Nat.succ_ne_zero _ z)] at hdg
    simp only [ab_ex] at h
    split at h
    next y x st0 =>
      obtain ⟨rfl, rfl, rfl, rfl⟩ := ab_nxe h
      exact ⟨⟨Nat.le_refl _, Nat.le_refl _⟩, fun H locs lsR hP hz hS hL => lv_lmul hx hb hdg (k H locs lsR hP hz hS hL)⟩
    next => cases h
  | lcmp =>
    have hdg := hdec
    rw [hn.resolve_left (fun z => Nat.succ_ne_zero _ z)] at hdg
    simp only [ab_ex] at h
    split at h
    next y x st0 =>
      obtain ⟨rfl, rfl, rfl, rfl⟩ := ab_nxe h
      exact ⟨⟨Nat.le_refl _, Nat.le_refl _⟩, fun H locs lsR hP hz hS hL => W.lcmp hx hb hdg (k H locs lsR hP hz hS hL)⟩
    next => cases h
  | dup =>
    have hdg := hdec
    rw [hn.resolve_left (fun z => Nat.succ_ne_zero _ z)] at hdg
    simp only [ab_ex] at h
    split at h
    next x st0 =>
      obtain ⟨rfl, rfl, rfl, rfl⟩ := ab_nxe h
      exact ⟨⟨Nat.le_refl _, Nat.le_refl _⟩, fun H locs lsR hP hz hS hL => lv_dup hx hb hdg rfl (k H locs lsR hP hz hS hL)⟩
    next x st0 =>
      obtain ⟨rfl, rfl, rfl, rfl⟩ := ab_nxe h
      exact ⟨⟨Nat.le_refl _, Nat.le_refl _⟩, fun H locs lsR hP hz hS hL => lv_dup hx hb hdg rfl (k H locs lsR hP hz hS hL)⟩
    next => cases h
  | dup2 =>
    have hdg := hdec
    rw [hn.resolve_left (fun z => Nat.succ_ne_zero _ z)] at hdg
    simp only [ab_ex] at h
    split at h
    next x r st0 =>
      obtain ⟨rfl, rfl, rfl, rfl⟩ := ab_nxe h
      exact ⟨⟨Nat.le_refl _, Nat.le_refl _⟩, fun H locs lsR hP hz hS hL => lv_dup2_11 hx hb hdg rfl rfl (k H locs lsR hP hz hS hL)⟩
    next => cases h
  | pop =>
    have hdg := hdec
    rw [hn.resolve_left (fun z => Nat.succ_ne_zero _ z)] at hdg
    simp only [ab_ex] at h
    split at h
    next x st0 =>
      obtain ⟨rfl, rfl, rfl, rfl⟩ := ab_nxe h
      exact ⟨⟨Nat.le_refl _, Nat.le_refl _⟩, fun H locs lsR hP hz hS hL => lv_pop hx hb hdg rfl (k H locs lsR hP hz hS hL)⟩
    next => cases h
  | ifCond cnd off =>
    have hdg := hdec
    rw [hn.resolve_left (fun z => Nat.succ_ne_zero _ z)] at hdg
    simp only [ab_ex] at h
    split at h
    next x st0 =>
      obtain ⟨rfl, rfl, rfl, t, ht, hpc⟩ := ab_ife h
      refine ⟨⟨Nat.le_refl _, Nat.le_refl _⟩, fun H locs lsR hP hz hS hL => ?_⟩
      have K : ∀ b, ab_cmp cnd x 0 = b → W p l e R s m args below meth c H locs (w.length - w0.length) (ab_z w - ab_z w0) Q (F0 m (cond b t (pc + 3)) lsR (st0.map (ab_v N E))) := by
        intro b hb2
        have := k H locs lsR hP hz hS hL
        rw [hpc, hb2] at this
        exact this
      cases cnd
      · exact lv_if_eq hx hb hdg ht (fun q => K true (decide_eq_true q)) (fun q => K false (decide_eq_false q))
      · exact lv_if_ne hx hb hdg ht (fun q => K true (by show (!decide _) = true; rw [decide_eq_false q]; rfl)) (fun q => K false (by show (!decide _) = false; rw [decide_eq_true q]; rfl))
      · exact lv_if_lt hx hb hdg ht (fun q => K true (decide_eq_true q)) (fun q => K false (decide_eq_false q))
      · exact lv_if_ge hx hb hdg ht (fun q => K true (decide_eq_true q)) (fun q => K false (decide_eq_false q))
      · exact lv_if_gt hx hb hdg ht (fun q => K true (decide_eq_true q)) (fun q => K false (decide_eq_false q))
      · exact lv_if_le hx hb hdg ht (fun q => K true (decide_eq_true q)) (fun q => K false (decide_eq_false q))
    next => cases h
  | if_icmp cnd off =>
    have hdg := hdec
    rw [hn.resolve_left (fun z => Nat.succ_ne_zero _ z)] at hdg
    simp only [ab_ex] at h
    split at h
    next y x st0 =>
      obtain ⟨rfl, rfl, rfl, t, ht, hpc⟩ := ab_ife h
      refine ⟨⟨Nat.le_refl _, Nat.le_refl _⟩, fun H locs lsR hP hz hS hL => ?_⟩
      have K : ∀ b, ab_cmp cnd x y = b → W p l e R s m args below meth c H locs (w.length - w0.length) (ab_z w - ab_z w0) Q (F0 m (cond b t (pc + 3)) lsR (st0.map (ab_v N E))) := by
        intro b hb2
        have := k H locs lsR hP hz hS hL
        rw [hpc, hb2] at this
        exact this
      cases cnd
      · exact lv_icmp_eq hx hb hdg ht (fun q => K true (decide_eq_true q)) (fun q => K false (decide_eq_false q))
      · exact lv_icmp_ne hx hb hdg ht (fun q => K true (by show (!decide _) = true; rw [decide_eq_false q]; rfl)) (fun q => K false (by show (!decide _) = false; rw [decide_eq_true q]; rfl))
      · exact lv_icmp_lt hx hb hdg ht (fun q => K true (decide_eq_true q)) (fun q => K false (decide_eq_false q))
      · exact lv_icmp_ge hx hb hdg ht (fun q => K true (decide_eq_true q)) (fun q => K false (decide_eq_false q))
      · exact lv_icmp_gt hx hb hdg ht (fun q => K true (decide_eq_true q)) (fun q => K false (decide_eq_false q))
      · exact lv_icmp_le hx hb hdg ht (fun q => K true (decide_eq_true q)) (fun q => K false (decide_eq_false q))
    next => cases h
  | ifnull off =>
    have hdg := hdec
    rw [hn.resolve_left (fun z => Nat.succ_ne_zero _ z)] at hdg
    simp only [ab_ex] at h
    split at h
    next st0 =>
      obtain ⟨ht, rfl, rfl, rfl⟩ := ab_goe h
      exact ⟨⟨Nat.le_refl _, Nat.le_refl _⟩, fun H locs lsR hP hz hS hL => lv_ifnullN hx hb hdg ht (k H locs lsR hP hz hS hL)⟩
    next r st0 =>
      obtain ⟨rfl, rfl, rfl, rfl⟩ := ab_nxe h
      exact ⟨⟨Nat.le_refl _, Nat.le_refl _⟩, fun H locs lsR hP hz hS hL => lv_ifnull hx hb hdg (k H locs lsR hP hz hS hL)⟩
    next => cases h
  | ifnonnull off =>
    have hdg := hdec
    rw [hn.resolve_left (fun z => Nat.succ_ne_zero _ z)] at hdg
    simp only [ab_ex] at h
    split at h
    next st0 =>
      obtain ⟨rfl, rfl, rfl, rfl⟩ := ab_nxe h
      exact ⟨⟨Nat.le_refl _, Nat.le_refl _⟩, fun H locs lsR hP hz hS hL => lv_ifnonnullN hx hb hdg (k H locs lsR hP hz hS hL)⟩
    next r st0 =>
      obtain ⟨ht, rfl, rfl, rfl⟩ := ab_goe h
      exact ⟨⟨Nat.le_refl _, Nat.le_refl _⟩, fun H locs lsR hP hz hS hL => lv_ifnonnull hx hb hdg ht (k H locs lsR hP hz hS hL)⟩
    next => cases h
  | goto off =>
    have hdg := hdec
    rw [hn.resolve_left (fun z => Nat.succ_ne_zero _ z)] at hdg
    simp only [ab_ex] at h
    obtain ⟨ht, rfl, rfl, rfl⟩ := ab_goe h
    exact ⟨⟨Nat.le_refl _, Nat.le_refl _⟩, fun H locs lsR hP hz hS hL => lv_goto hx hb hdg ht (k H locs lsR hP hz hS hL)⟩
  | tableswitch d lo hi offs =>
    have hdg := hdec
    simp only [ab_ex] at h
    split at h
    next x st0 =>
      split at h
      next hc =>
        obtain ⟨ht, rfl, rfl, rfl⟩ := ab_goe h
        simp only [Bool.or_eq_true, decide_eq_true_eq] at hc
        exact ⟨⟨Nat.le_refl _, Nat.le_refl _⟩, fun H locs lsR hP hz hS hL => lv_tableOut hx hb hdg hc ht (k H locs lsR hP hz hS hL)⟩
      next hc =>
        split at h
        next off ho =>
          obtain ⟨ht, rfl, rfl, rfl⟩ := ab_goe h
          simp only [Bool.or_eq_false_iff, decide_eq_false_iff_not] at hc
          rw [Array.getElem?_toList] at ho
          exact ⟨⟨Nat.le_refl _, Nat.le_refl _⟩, fun H locs lsR hP hz hS hL => lv_tableIn hx hb hdg hc.1 hc.2 ho ht (k H locs lsR hP hz hS hL)⟩
        next => cases h
    next => cases h
  | getfield ix =>
    have hdg := hdec
    rw [hn.resolve_left (fun z => Nat.succ_ne_zero _ z)] at hdg
    simp only [ab_ex] at h
    obtain ⟨rfl, hJ⟩ := ab_getw B' h hdg k
    exact ⟨⟨Nat.le_refl _, Nat.le_refl _⟩, hJ⟩
  | putfield ix =>
    have hdg := hdec
    rw [hn.resolve_left (fun z => Nat.succ_ne_zero _ z)] at hdg
    simp only [ab_ex] at h
    obtain ⟨h1, h2, hJ⟩ := ab_putw B' hg.1 h hdg k
    exact ⟨⟨Nat.le_of_eq h1.symm, Nat.le_of_eq h2.symm⟩, hJ⟩
  | getstatic ix =>
    have hdg := hdec
    rw [hn.resolve_left (fun z => Nat.succ_ne_zero _ z)] at hdg
    simp only [ab_ex] at h
    obtain ⟨-, -, -, -, -, -, -, ⟨t0, t1, t2, t3⟩, -, h9, h10⟩ := hU
    split at h
    next pl hl =>
      obtain ⟨rfl, rfl, rfl, rfl⟩ := ab_nxe h
      have hk : lw_tbl[pl]? = some (.fieldLink (ab_nm (ic mi)) ix "StairRow$House" "ABOVE" "[I") := of_decide_eq_true (List.all_eq_true.mp (ab_ckWat hcl).2.1 _ (ab_lk_mem _ _ _ hl))
      refine ⟨⟨Nat.le_refl _, Nat.le_refl _⟩, fun H locs lsR hP hz hS hL => ?_⟩
      have := k H locs lsR hP hz hS hL
      have e1 : (Value.retAddr 1 :: st).map (ab_v N E) = .ref t0 :: st.map (ab_v N E) := by rw [← t1]; rfl
      rw [e1] at this
      exact va_gets hx hb t2 hS hown (hts _ (ab_gwM hk rfl)) (fun _ h => h) hdg this
    next pl hl =>
      obtain ⟨rfl, rfl, rfl, rfl⟩ := ab_nxe h
      have hk : lw_tbl[pl]? = some (.fieldLink (ab_nm (ic mi)) ix "java/lang/String" "COMPACT_STRINGS" "Z") := of_decide_eq_true (List.all_eq_true.mp (ab_ckWat hcl).2.1 _ (ab_lk_mem _ _ _ hl))
      exact ⟨⟨Nat.le_refl _, Nat.le_refl _⟩, fun H locs lsR hP hz hS hL => va_gets hx hb h9 hS hown (hts _ (ab_gwM hk rfl)) (fun _ h => h) hdg (k H locs lsR hP hz hS hL)⟩
    next pl hl =>
      obtain ⟨rfl, rfl, rfl, rfl⟩ := ab_nxe h
      have hk : lw_tbl[pl]? = some (.fieldLink (ab_nm (ic mi)) ix "jdk/internal/util/Preconditions" "SIOOBE_FORMATTER" "Ljava/util/function/BiFunction;") := of_decide_eq_true (List.all_eq_true.mp (ab_ckWat hcl).2.1 _ (ab_lk_mem _ _ _ hl))
      exact ⟨⟨Nat.le_refl _, Nat.le_refl _⟩, fun H locs lsR hP hz hS hL => va_gets hx hb h10 hS hown (hts _ (ab_gwM hk rfl)) (fun _ h => h) hdg (k H locs lsR hP hz hS hL)⟩
    next => cases h
  | arraylength =>
    have hdg := hdec
    rw [hn.resolve_left (fun z => Nat.succ_ne_zero _ z)] at hdg
    simp only [ab_ex] at h
    obtain ⟨rfl, hJ⟩ := ab_alenw B' h hdg k
    exact ⟨⟨Nat.le_refl _, Nat.le_refl _⟩, hJ⟩
  | iaload =>
    have hdg := hdec
    rw [hn.resolve_left (fun z => Nat.succ_ne_zero _ z)] at hdg
    simp only [ab_ex] at h
    obtain ⟨rfl, hJ⟩ := ab_ialdw B' h hdg k
    exact ⟨⟨Nat.le_refl _, Nat.le_refl _⟩, hJ⟩
  | baload =>
    have hdg := hdec
    rw [hn.resolve_left (fun z => Nat.succ_ne_zero _ z)] at hdg
    simp only [ab_ex] at h
    obtain ⟨rfl, hJ⟩ := ab_baldw B' h hdg k
    exact ⟨⟨Nat.le_refl _, Nat.le_refl _⟩, hJ⟩
  | aaload =>
    have hdg := hdec
    rw [hn.resolve_left (fun z => Nat.succ_ne_zero _ z)] at hdg
    simp only [ab_ex] at h
    obtain ⟨rfl, hJ⟩ := ab_aaldw B' h hdg k
    exact ⟨⟨Nat.le_refl _, Nat.le_refl _⟩, hJ⟩
  | iastore =>
    have hdg := hdec
    rw [hn.resolve_left (fun z => Nat.succ_ne_zero _ z)] at hdg
    simp only [ab_ex] at h
    obtain ⟨h1, h2, hJ⟩ := ab_iastw B' hg.1 h hdg k
    exact ⟨⟨Nat.le_of_eq h1.symm, Nat.le_of_eq h2.symm⟩, hJ⟩
  | aastore =>
    have hdg := hdec
    rw [hn.resolve_left (fun z => Nat.succ_ne_zero _ z)] at hdg
    simp only [ab_ex] at h
    obtain ⟨h1, h2, hJ⟩ := ab_aastw B' hg.1 h hdg k
    exact ⟨⟨Nat.le_of_eq h1.symm, Nat.le_of_eq h2.symm⟩, hJ⟩
  | new ix =>
    have hdg := hdec
    rw [hn.resolve_left (fun z => Nat.succ_ne_zero _ z)] at hdg
    simp only [ab_ex] at h
    split at h
    next ci pl hl =>
      split at h
      next hc =>
        obtain ⟨rfl, rfl, rfl, rfl⟩ := ab_nxe h
        refine ⟨⟨by simp, by unfold ab_z; rw [List.map_append, List.sum_append]; omega⟩, ?_⟩
        exact ab_newO B' hl (Nat.le_of_ble_eq_true hc) hdg hg hRb k
      next => cases h
    next => cases h
  | newarray ty =>
    have hdg := hdec
    rw [hn.resolve_left (fun z => Nat.succ_ne_zero _ z)] at hdg
    cases ty with
    | int =>
      simp only [ab_ex] at h
      split at h
      next n st0 =>
        split at h
        next hc =>
          obtain ⟨rfl, rfl, rfl, rfl⟩ := ab_nxe h
          simp only [Bool.and_eq_true, Bool.not_eq_true', decide_eq_false_iff_not] at hc
          refine ⟨⟨by simp, by unfold ab_z; rw [List.map_append, List.sum_append]; omega⟩, ?_⟩
          exact ab_newI B' hc.1 (Nat.le_of_ble_eq_true hc.2) hdg hg hRb k
        next => cases h
      next => cases h
    | _ => cases h
  | anewarray ix =>
    have hdg := hdec
    rw [hn.resolve_left (fun z => Nat.succ_ne_zero _ z)] at hdg
    simp only [ab_ex] at h
    split at h
    next k0 pl hl =>
      split at h
      next n st0 =>
        split at h
        next hc =>
          obtain ⟨rfl, rfl, rfl, rfl⟩ := ab_nxe h
          simp only [Bool.and_eq_true, Bool.not_eq_true', decide_eq_false_iff_not, Bool.or_eq_true] at hc
          refine ⟨⟨by simp, by unfold ab_z; rw [List.map_append, List.sum_append]; omega⟩, ?_⟩
          exact ab_newQ B' hl (hc.2.imp Nat.eq_of_beq_eq_true Nat.eq_of_beq_eq_true) hc.1.1 (Nat.le_of_ble_eq_true hc.1.2) hdg hg hRb k
        next => cases h
      next => cases h
    next => cases h
  | invokestatic ix =>
    have hdg := hdec
    rw [hn.resolve_left (fun z => Nat.succ_ne_zero _ z)] at hdg
    simp only [ab_ex] at h
    split at h
    next pl hl =>
      obtain ⟨h1, h2, hJ⟩ := ab_cpyw B' hR hg.1 hl h hdg k
      exact ⟨⟨Nat.le_of_eq h1.symm, Nat.le_of_eq h2.symm⟩, hJ⟩
    next =>
      split at h
      next pl hl =>
        split at h
        next y x st0 =>
          split at h
          next hc =>
            obtain ⟨rfl, rfl, rfl, rfl⟩ := ab_nxe h
            have hk : lw_tbl[pl]? = some (.methodLink (ab_nm (ic mi)) ix Lib.Math.max.name) := of_decide_eq_true (List.all_eq_true.mp (ab_ckWat hcl).2.2.2.2 _ (ab_lk_mem _ _ _ hl))
            have hsum : ((st0.map (ab_v N E)).map fun v => v.category).sum ≤ 8 := by rw [ab_cat_sum hE]; exact of_decide_eq_true hc
            exact ⟨⟨Nat.le_refl _, Nat.le_refl _⟩, fun H locs lsR hP hz hS hL => va_mmax hx hb (by rw [hml]; exact hL.2.1.symm) hown (hts _ (ab_gwM hk rfl)) (hts _ (ab_gwM (i := 646) (by decide +kernel) rfl)) (hts _ (ab_gwM (i := 127) (by decide +kernel) rfl)) (hts _ (ab_gwM (i := 647) (by decide +kernel) rfl)) hR.1 (by omega) hRb.1 hRb.2 hdg (k H locs lsR hP hz hS hL)⟩
          next => cases h
        next => cases h
      next pl hl =>
        split at h
        next y x st0 =>
          split at h
          next hc =>
            obtain ⟨rfl, rfl, rfl, rfl⟩ := ab_nxe h
            have hk : lw_tbl[pl]? = some (.methodLink (ab_nm (ic mi)) ix Lib.Math.min.name) := of_decide_eq_true (List.all_eq_true.mp (ab_ckWat hcl).2.2.2.2 _ (ab_lk_mem _ _ _ hl))
            have hsum : ((st0.map (ab_v N E)).map fun v => v.category).sum ≤ 8 := by rw [ab_cat_sum hE]; exact of_decide_eq_true hc
            exact ⟨⟨Nat.le_refl _, Nat.le_refl _⟩, fun H locs lsR hP hz hS hL => va_mmin hx hb (by rw [hml]; exact hL.2.1.symm) hown (hts _ (ab_gwM hk rfl)) (hts _ (ab_gwM (i := 907) (by decide +kernel) rfl)) (hts _ (ab_gwM (i := 127) (by decide +kernel) rfl)) (hts _ (ab_gwM (i := 908) (by decide +kernel) rfl)) hR.1 (by omega) hRb.1 hRb.2 hdg (k H locs lsR hP hz hS hL)⟩
          next => cases h
        next => cases h
      next => cases h
      next => exact absurd h (ab_inv_no _ _ _ _ _ _ _ _)
  | invokevirtual ix =>
    have hdg := hdec
    rw [hn.resolve_left (fun z => Nat.succ_ne_zero _ z)] at hdg
    simp only [ab_ex] at h
    exact absurd h (ab_inv_no _ _ _ _ _ _ _ _)
  | invokespecial ix =>
    have hdg := hdec
    rw [hn.resolve_left (fun z => Nat.succ_ne_zero _ z)] at hdg
    simp only [ab_ex] at h
    split at h
    next pl hl =>
      split at h
      next r st0 =>
        split at h
        next hc =>
          obtain ⟨rfl, rfl, rfl, rfl⟩ := ab_nxe h
          have hk : lw_tbl[pl]? = some (.methodLink (ab_nm (ic mi)) ix Lib.objectInit) := of_decide_eq_true (List.all_eq_true.mp (ab_ckWat hcl).2.2.1 _ (ab_lk_mem _ _ _ hl))
          have hsum : ((st0.map (ab_v N E)).map fun v => v.category).sum ≤ 8 := by rw [ab_cat_sum hE]; exact of_decide_eq_true hc
          exact ⟨⟨Nat.le_refl _, Nat.le_refl _⟩, fun H locs lsR hP hz hS hL => W.objInit hx hb hown (hts _ (ab_gwM hk rfl)) (hts _ (ab_gwM (i := 139) (by decide +kernel) rfl)) (hts _ (ab_gwM (i := 140) (by decide +kernel) rfl)) rfl (hL.2.1.trans hml.symm) rfl hdg hR.1 (by show 2 * 0 + _ + 12 ≤ _; omega) (k H locs lsR hP hz hS hL)⟩
        next => cases h
      next => cases h
    next => exact absurd h (ab_inv_no _ _ _ _ _ _ _ _)
  | ireturn =>
    have hdg := hdec
    rw [hn.resolve_left (fun z => Nat.succ_ne_zero _ z)] at hdg
    simp only [ab_ex] at h
    repeat' split at h
    all_goals cases h
  | lreturn =>
    have hdg := hdec
    rw [hn.resolve_left (fun z => Nat.succ_ne_zero _ z)] at hdg
    simp only [ab_ex] at h
    repeat' split at h
    all_goals cases h
  | areturn =>
    have hdg := hdec
    rw [hn.resolve_left (fun z => Nat.succ_ne_zero _ z)] at hdg
    simp only [ab_ex] at h
    repeat' split at h
    all_goals cases h
  | return_ =>
    have hdg := hdec
    rw [hn.resolve_left (fun z => Nat.succ_ne_zero _ z)] at hdg
    simp only [ab_ex] at h
    repeat' split at h
    all_goals cases h
  | _ => cases h
end THREE
