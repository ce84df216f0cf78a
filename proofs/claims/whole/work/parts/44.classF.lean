/-! THE CLASS: a row, writes -/
theorem drop_lt {s : List Int32} {j : Nat} {x : Int32} (h : j < 80) : (s.set j x).drop 80 = s.drop 80 := by rw [List.drop_set, if_pos h]
theorem drop_ge {s : List Int32} {k : Nat} {x : Int32} : (s.set (80 + k) x).drop 80 = (s.drop 80).set k x := by
  rw [List.drop_set, if_neg (by omega), show 80 + k - 80 = k by omega]
theorem dB_ne {s : List Int32} {j : Nat} {x : Int32} {d : Nat} (h : j ≠ 66 + d) : dB (s.set j x) d = dB s d := by
  unfold dB
  rw [gD_ne h]
theorem fld_ne {s : List Int32} {j : Nat} {x : Int32} {h k : Nat} (e : j ≠ 2 + 8 * h + k) : fld (s.set j x) h k = fld s h k := by
  rw [fld_l, fld_l, gD_ne e]
theorem dB_set {s : List Int32} {d d' : Nat} {z : Bool} (hl : s.length = 90) (hd : d < 14) : dB (s.set (66 + d) (z01 z)) d' = if d' = d then z else dB s d' := by
  unfold dB
  rw [gD_set _ _ _ _ (by omega)]
  by_cases h : d' = d
  · rw [if_pos (by omega), if_pos h]
    cases z <;> rfl
  · rw [if_neg (by omega), if_neg h]
theorem mark_B {p : Nat → Bool} {m d : Nat} (hm : m ≤ 32) (hd : d < m) (z : Bool) : markI (bs p m) d z = bs (fun i => if i = d then z else p i) m := by
  apply b_ext
  intro i hi
  unfold markI
  rw [bt_bs _ _ _ hm hi]
  cases z with
  | true =>
    rw [if_pos rfl, b_or, bt_bs _ _ _ hm hi, b_sh (by omega) hi]
    by_cases h : i = d
    · simp [h, hd]
    · simp [h]
  | false =>
    rw [if_neg (by decide), b_and, b_xor, bt_bs _ _ _ hm hi, b_sh (by omega) hi, b_m1 i hi]
    by_cases h : i = d
    · simp [h]
    · simp [h]
section XG
variable {X : List Int32} {w w1 : ab_W} {r n : Nat} {s : List Int32}
theorem RowW.setf (R : RowW w r s n) {h j : Nat} {v : Int32} (hh : h < n) (hj : j < 8) (e : w1[r + 3 + h]? = some (.inl (0, (hL s h).set (j + 1) (.int v)))) (F : ∀ i, i ≠ r + 3 + h → w1[i]? = w[i]?) : RowW w1 r (s.set (2 + 8 * h + j) v) n := by
  obtain ⟨r0, r1, r2, r3, r4, hl, h0, hn⟩ := R
  refine ⟨?_, (F _ (by omega)).trans r1, ?_, fun h' hh' => ?_, fun h' hh' => ?_, by rw [List.length_set]; exact hl, by rw [gD_ne (by omega)]; exact h0, hn⟩
  · rw [F _ (by omega), r0, gD_ne (by omega), bs_cong (fun d hd => dB_ne (by omega))]
  · rw [F _ (by omega), r2, drop_lt (by omega)]
  · by_cases e1 : h' = h
    · subst e1
      rw [e, hL_set hl (by omega) hj]
    · rw [F _ (by omega), r3 h' hh', hL_ne hl (by omega) hj e1]
  · by_cases e1 : h' = h
    · subst e1
      exact ⟨_, e, by rw [List.length_set]; rfl⟩
    · obtain ⟨vs, e2, e3⟩ := r4 h' hh'
      exact ⟨vs, (F _ (by omega)).trans e2, e3⟩
theorem RowW.setz (R : RowW w r s n) {x : Int32} (e : w1[r]? = some (.inl (2, [.ref (r + 1), .int (nI n), .int (bs (dB s) 14), .int x, .ref (r + 2)]))) (F : ∀ i, i ≠ r → w1[i]? = w[i]?) : RowW w1 r (s.set 1 x) n := by
  obtain ⟨r0, r1, r2, r3, r4, hl, h0, hn⟩ := R
  refine ⟨?_, (F _ (by omega)).trans r1, ?_, fun h' hh' => ?_, fun h' hh' => ?_, by rw [List.length_set]; exact hl, by rw [gD_ne (by omega)]; exact h0, hn⟩
  · rw [e, gD_eq (by omega), bs_cong (fun d hd => dB_ne (by omega))]
  · rw [F _ (by omega), r2, drop_lt (by omega)]
  · rw [F _ (by omega), r3 h' hh', hL_eq (fun k hk => fld_ne (by omega))]
  · obtain ⟨vs, e2, e3⟩ := r4 h' hh'
    exact ⟨vs, (F _ (by omega)).trans e2, e3⟩
theorem RowW.setd (R : RowW w r s n) {d : Nat} {z : Bool} (hd : d < 14) (e : w1[r]? = some (.inl (2, [.ref (r + 1), .int (nI n), .int (markI (bs (dB s) 14) d z), .int (s.getD 1 0), .ref (r + 2)]))) (F : ∀ i, i ≠ r → w1[i]? = w[i]?) : RowW w1 r (s.set (66 + d) (z01 z)) n := by
  obtain ⟨r0, r1, r2, r3, r4, hl, h0, hn⟩ := R
  refine ⟨?_, (F _ (by omega)).trans r1, ?_, fun h' hh' => ?_, fun h' hh' => ?_, by rw [List.length_set]; exact hl, by rw [gD_ne (by omega)]; exact h0, hn⟩
  · rw [e, gD_ne (by omega), mark_B (by omega) hd, bs_cong (fun d' hd' => (dB_set hl hd).symm)]
  · rw [F _ (by omega), r2, drop_lt (by omega)]
  · rw [F _ (by omega), r3 h' hh', hL_eq (fun k hk => fld_ne (by omega))]
  · obtain ⟨vs, e2, e3⟩ := r4 h' hh'
    exact ⟨vs, (F _ (by omega)).trans e2, e3⟩
theorem RowW.sets (R : RowW w r s n) {k : Nat} {x : Int32} (hk : k < 10) (e : w1[r + 2]? = some (.inr ((s.drop 80).set k x))) (F : ∀ i, i ≠ r + 2 → w1[i]? = w[i]?) : RowW w1 r (s.set (80 + k) x) n := by
  obtain ⟨r0, r1, r2, r3, r4, hl, h0, hn⟩ := R
  refine ⟨?_, (F _ (by omega)).trans r1, ?_, fun h' hh' => ?_, fun h' hh' => ?_, by rw [List.length_set]; exact hl, by rw [gD_ne (by omega)]; exact h0, hn⟩
  · rw [F _ (by omega), r0, gD_ne (by omega), bs_cong (fun d hd => dB_ne (by omega))]
  · rw [e, drop_ge]
  · rw [F _ (by omega), r3 h' hh', hL_eq (fun k hk => fld_ne (by omega))]
  · obtain ⟨vs, e2, e3⟩ := r4 h' hh'
    exact ⟨vs, (F _ (by omega)).trans e2, e3⟩
theorem RowW.shape (R : RowW w r s n) : ∃ vs, w[r]? = some (.inl (2, vs)) := ⟨_, R.1⟩
set_option maxRecDepth 100000 in
set_option maxHeartbeats 4000000 in
theorem x_setDoor (R : RowW w r s n) {d : Nat} (hd : d < 14) (z : Bool) : ab_Q X kX2_setDoor [.ref r, .int (nI d), .int (z01 z)] w (fun v w1 => v = none ∧ RowW w1 r (s.set (66 + d) (z01 z)) n ∧ ∀ i, (i < r ∨ r + 11 ≤ i) → w1[i]? = w[i]?) := by
  have R0 := R
  obtain ⟨r0, r1, r2, r3, r4, hl, h0, hn⟩ := R
  show ab_H X kX2_setDoor 0 [some (.ref r), some (.int (nI d)), some (.int (z01 z))] [] w _
  iterate 2 refine h_s rfl ?_
  refine h_gf rfl rfl rfl r0 rfl ?_
  iterate 2 refine h_s rfl ?_
  refine h_c rfl (x_marked (bs (dB s) 14) d z) ?_
  refine h_n (st2 := [_, _]) rfl ?_
  refine h_pf rfl rfl r0 rfl (fun w1 e1 f1 => ?_)
  exact h_r rfl ⟨rfl, R0.setd hd e1 f1, fun i hi => f1 i (by omega)⟩
set_option maxRecDepth 100000 in
set_option maxHeartbeats 4000000 in
theorem x_atW {m : Nat} {d z : Int32} (r0 : w[r]? = some (.inl (2, [.ref (r + 1), .int (nI m), .int d, .int z, .ref (r + 2)]))) (r1 : w[r + 1]? = some (.inl (7, rowHs r))) (hm : m ≤ 8) {h : Nat} (hh : h < m) : ab_M X kX2_at [.ref r, .int (nI h)] w (some (.ref (r + 3 + h))) w := by
  show ab_G X kX2_at 0 [some (.ref r), some (.int (nI h))] [] w _ _
  refine ab_s rfl ?_
  refine jM_lt rfl rfl rfl rfl (by omega) (fun h1 => absurd h1 (by omega)) (fun h1 => ?_)
  iterate 2 refine ab_s rfl ?_
  refine ab_gf rfl rfl rfl r0 rfl ?_
  refine jN_ge rfl rfl rfl rfl (by omega) (by omega) (fun h9 => absurd h9 (by omega)) (fun h9 => ?_)
  iterate 2 refine ab_s rfl ?_
  refine ab_gf rfl rfl rfl r0 rfl ?_
  refine ab_alq (x := 8) rfl r1 rfl (by rw [rowHs_l]; rfl) ?_
  refine jN_lt (b := 8) rfl rfl rfl rfl (by omega) (by omega) (fun h18 => ?_) (fun h18 => absurd (by omega) h18)
  refine ab_s rfl ?_
  refine ab_gf rfl rfl rfl r0 rfl ?_
  refine ab_s rfl ?_
  refine ab_aq h rfl r1 rfl (by rw [rowHs_l]; decide) rfl (rowHs_g r (by omega)) ?_
  exact ab_r rfl
theorem newS_l (s : List Int32) (n : Nat) (k : Int32) : (newS s n k).length = s.length := by
  unfold newS
  repeat rw [List.length_set]
theorem newS_D {s : List Int32} {n : Nat} {k : Int32} {j : Nat} (h0 : j ≠ 0) (h : ∀ i, i < 8 → j ≠ 2 + 8 * n + i) : (newS s n k).getD j 0 = s.getD j 0 := by
  unfold newS
  rw [gD_ne (fun e => h0 e.symm), gD_ne (fun e => h 7 (by omega) e.symm), gD_ne (fun e => h 6 (by omega) e.symm), gD_ne (fun e => h 5 (by omega) e.symm), gD_ne (fun e => h 4 (by omega) e.symm), gD_ne (fun e => h 3 (by omega) e.symm), gD_ne (fun e => h 2 (by omega) e.symm), gD_ne (fun e => h 1 (by omega) e.symm), gD_ne (fun e => h 0 (by omega) e.symm)]
theorem newS_0 {s : List Int32} {n : Nat} {k : Int32} (hl : s.length = 90) : (newS s n k).getD 0 0 = nI (n + 1) := by
  unfold newS
  rw [gD_eq (by simp only [List.length_set]; omega)]
theorem newS_h {s : List Int32} {n : Nat} {k : Int32} (hl : s.length = 90) (hn : n < 8) : hL (newS s n k) n = [.int (nI n), .int k, .int (-1), .int 0, .int 6, .int 22, .int 0, .int 2, .int (nI n)] := by
  have g : ∀ (xs : List Int32) (j : Nat) (x : Int32), xs.length = 90 → j < 90 → (xs.set j x).getD j 0 = x := fun xs j x h1 h2 => gD_eq (by omega)
  unfold hL newS
  simp only [fld_l]
  repeat rw [gD_ne (show (0 : Nat) ≠ _ by omega)]
  simp only [gD_set, List.length_set, hl, show 2 + 8 * n + 7 < 90 by omega, show 2 + 8 * n + 6 < 90 by omega, show 2 + 8 * n + 5 < 90 by omega, show 2 + 8 * n + 4 < 90 by omega, show 2 + 8 * n + 3 < 90 by omega, show 2 + 8 * n + 2 < 90 by omega, show 2 + 8 * n + 1 < 90 by omega, show 2 + 8 * n + 0 < 90 by omega]
  simp
theorem drop_new {s : List Int32} {n : Nat} {k : Int32} (hn : n < 8) : (newS s n k).drop 80 = s.drop 80 := by
  unfold newS
  rw [drop_lt (by omega), drop_lt (by omega), drop_lt (by omega), drop_lt (by omega), drop_lt (by omega), drop_lt (by omega), drop_lt (by omega), drop_lt (by omega), drop_lt (by omega)]
set_option maxRecDepth 100000 in
set_option maxHeartbeats 4000000 in
theorem x_build (R : RowW w r s n) (hn8 : n < 8) (k : Int32) : ab_Q X kX2_build [.ref r, .int k] w (fun v w1 => v = some (.int (nI n)) ∧ RowW w1 r (newS s n k) (n + 1) ∧ ∀ i, (i < r ∨ r + 11 ≤ i) → w1[i]? = w[i]?) := by
  have R0 := R
  obtain ⟨r0, r1, r2, r3, r4, hl, h0, hn⟩ := R
  show ab_H X kX2_build 0 [some (.ref r), some (.int k), none, none] [] w _
  refine h_s rfl ?_
  refine h_gf rfl rfl rfl r0 rfl ?_
  iterate 3 refine h_s rfl ?_
  refine h_gf rfl rfl rfl r0 rfl ?_
  refine h_k (y := 1) rfl rfl ?_
  refine h_Nadd (b := 1) rfl rfl rfl ?_
  refine h_pf rfl rfl r0 rfl (fun w1 e1 f1 => ?_)
  have r0 := e1
  iterate 2 refine h_s rfl ?_
  refine h_cv rfl rfl rfl r0 rfl rfl (x_atW (m := n + 1) e1 ((f1 _ (by omega)).trans r1) (by omega) (by omega)) ?_
  refine h_n (st2 := [_]) rfl ?_
  iterate 6 refine h_s rfl ?_
  refine h_n rfl ?_
  obtain ⟨vs, hv1, hv2⟩ := r4 n hn8
  refine hq_v rfl rfl rfl ((f1 _ (by omega)).trans hv1) rfl rfl (x_renew ((f1 _ (by omega)).trans hv1) hv2 (nI n) k) (fun v2 w2 q2 => ?_)
  obtain ⟨rfl, e2, f2⟩ := q2
  refine h_n (st2 := []) rfl ?_
  refine h_s rfl ?_
  refine h_ri rfl rfl ⟨rfl, ⟨?_, ?_, ?_, fun h' hh' => ?_, fun h' hh' => ?_, (newS_l ..).trans hl, newS_0 hl, hn8⟩, fun i hi => (f2 i (by omega)).trans (f1 i (by omega))⟩
  · rw [f2 _ (by omega), e1, newS_D (by omega) (by omega), bs_cong (fun d hd => show dB (newS s n k) d = dB s d from by unfold dB; rw [newS_D (by omega) (by omega)])]
    rfl
  · exact (f2 _ (by omega)).trans ((f1 _ (by omega)).trans r1)
  · rw [f2 _ (by omega), f1 _ (by omega), r2, drop_new hn8]
  · by_cases e : h' = n
    · subst e
      rw [e2, newS_h hl hn8]
    · rw [f2 _ (by omega), f1 _ (by omega), r3 h' (by omega), hL_eq (s := s) (s' := newS s n k) (fun j hj => by rw [fld_l, fld_l, newS_D (by omega) (fun i hi => by omega)])]
  · by_cases e : h' = n
    · subst e
      exact ⟨_, e2, rfl⟩
    · obtain ⟨vs, e3, e4⟩ := r4 h' hh'
      exact ⟨vs, (f2 _ (by omega)).trans ((f1 _ (by omega)).trans e3), e4⟩
set_option maxRecDepth 100000 in
set_option maxHeartbeats 4000000 in
theorem x_drawBelow (R : RowW w r s n) {b : Nat} (hb : 0 < b) (hb8 : b ≤ 8) : ab_Q X kX2_drawBelow [.ref r, .int (nI b)] w (fun v w1 => ∃ j, j < b ∧ nI j = (((s.getD 1 0 * 1103515245 + 12345).toUInt32 >>> ((8 : Int32).toUInt32 &&& Int32.toUInt32 31)).toInt32) - (((s.getD 1 0 * 1103515245 + 12345).toUInt32 >>> ((8 : Int32).toUInt32 &&& Int32.toUInt32 31)).toInt32) / nI b * nI b ∧ v = some (.int (nI j)) ∧ RowW w1 r (s.set 1 (s.getD 1 0 * 1103515245 + 12345)) n ∧ ∀ i, (i < r ∨ r + 11 ≤ i) → w1[i]? = w[i]?) := by
  have R0 := R
  obtain ⟨r0, r1, r2, r3, r4, hl, h0, hn⟩ := R
  show ab_H X kX2_drawBelow 0 [some (.ref r), some (.int (nI b))] [] w _
  iterate 2 refine h_s rfl ?_
  refine h_gf rfl rfl rfl r0 rfl ?_
  refine h_k (y := 1103515245) rfl rfl ?_
  refine h_s rfl ?_
  refine h_k (y := 12345) rfl rfl ?_
  refine h_s rfl ?_
  refine h_pf rfl rfl r0 rfl (fun w1 e1 f1 => ?_)
  have r0 := e1
  refine h_s rfl ?_
  refine hM_le rfl rfl rfl rfl (by omega) (fun h16 => absurd h16 (by omega)) (fun h16 => ?_)
  refine h_s rfl ?_
  refine h_gf rfl rfl rfl r0 rfl ?_
  refine h_k (y := 8) rfl rfl ?_
  iterate 2 refine h_s rfl ?_
  obtain ⟨y, hy⟩ : ∃ y, s.getD 1 0 * 1103515245 + 12345 = y := ⟨_, rfl⟩
  rw [hy] at e1 ⊢
  have hu : (y.toUInt32 >>> ((8 : Int32).toUInt32 &&& Int32.toUInt32 31)).toInt32 = nI (y.toBitVec.toNat / 2 ^ 8) := by
    have h1 := pk_ushr y 8 8 rfl
    apply Int32.toBitVec_inj.mp
    apply BitVec.eq_of_toNat_eq
    rw [h1, pk_tn (by have := y.toBitVec.isLt; omega)]
  have hy2 : y.toBitVec.toNat / 2 ^ 8 < 2 ^ 31 := by have := y.toBitVec.isLt; omega
  refine h_Nrem (a := y.toBitVec.toNat / 2 ^ 8) (b := b) rfl hu rfl hy2 hb (by omega) ?_
  refine h_s rfl ?_
  refine h_ri rfl rfl ⟨_, Nat.mod_lt _ hb, ?_, rfl, R0.setz e1 f1, fun i hi => f1 i (by omega)⟩
  rw [hu, pk_rem hy2 hb (by omega)]
end XG
