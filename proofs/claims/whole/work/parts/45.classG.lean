/-! THE CLASS: a row takes from another; beds that shift -/
section XH
variable {X : List Int32} {w : ab_W} {r q n n0 : Nat} {s s0 : List Int32}
set_option maxRecDepth 100000 in
set_option maxHeartbeats 4000000 in
theorem x_takeRow (R : RowW w q s n) (T : RowW w r s0 n0) (hd : r + 11 ≤ q ∨ q + 11 ≤ r) : ab_Q X kX2_takeFrom [.ref r, .ref q] w (fun v w1 => v = none ∧ RowW w1 r s n ∧ ∀ i, (i < r ∨ r + 11 ≤ i) → w1[i]? = w[i]?) := by
  have R0 := R
  obtain ⟨r0, r1, r2, r3, r4, hl, h0, hn⟩ := R
  obtain ⟨t0, t1, t2, t3, t4, tl, th0, tn⟩ := T
  show ab_H X kX2_takeFrom 0 [some (.ref r), some (.ref q), none, none, none] [] w _
  iterate 2 refine h_s rfl ?_
  refine h_gf rfl rfl rfl r0 rfl ?_
  refine h_pf rfl rfl t0 rfl (fun w1 e1 f1 => ?_)
  have t0 := e1
  have r0 := (f1 _ (by omega)).trans r0
  iterate 2 refine h_s rfl ?_
  refine h_gf rfl rfl rfl r0 rfl ?_
  refine h_pf rfl rfl t0 rfl (fun w2 e2 f2 => ?_)
  have t0 := e2
  have r0 := (f2 _ (by omega)).trans r0
  iterate 2 refine h_s rfl ?_
  refine h_gf rfl rfl rfl r0 rfl ?_
  refine h_pf rfl rfl t0 rfl (fun w3 e3 f3 => ?_)
  have t0 := e3
  have r0 := (f3 _ (by omega)).trans r0
  refine h_k (y := 0) rfl rfl ?_
  refine h_s rfl ?_
  refine h_loop0 n (fun i ls v => (∃ x0 x1, ls = [some (.ref r), some (.ref q), some (.int (nI i)), x0, x1]) ∧ (∀ j, (j < r ∨ r + 11 ≤ j) → v[j]? = w[j]?) ∧ v[r]? = some (.inl (2, [.ref (r + 1), .int (nI n), .int (bs (dB s) 14), .int (s.getD 1 0), .ref (r + 2)])) ∧ v[r + 1]? = some (.inl (7, rowHs r)) ∧ v[r + 2]? = some (.inr (s0.drop 80)) ∧ (∀ h, h < i → v[r + 3 + h]? = some (.inl (0, hL s h))) ∧ (∀ h, h < 8 → ∃ vs, v[r + 3 + h]? = some (.inl (0, vs)) ∧ vs.length = 9)) ⟨⟨none, none, rfl⟩, fun j hj => (f3 j (by omega)).trans ((f2 j (by omega)).trans (f1 j (by omega))), t0, (f3 _ (by omega)).trans ((f2 _ (by omega)).trans ((f1 _ (by omega)).trans t1)), (f3 _ (by omega)).trans ((f2 _ (by omega)).trans ((f1 _ (by omega)).trans t2)), fun h hh => absurd hh (by omega), fun h hh => ?_⟩ (fun i ls v hi hJ ih => ?_) (fun ls v hJ => ?_)
  · obtain ⟨vs, h1, h2⟩ := t4 h hh
    exact ⟨vs, (f3 _ (by omega)).trans ((f2 _ (by omega)).trans ((f1 _ (by omega)).trans h1)), h2⟩
  · obtain ⟨⟨x0, x1, rfl⟩, F, t0, t1, t2, t3, t4⟩ := hJ
    have R1 := R0.fr (w1 := v) (fun j h1 h2 => F j (by omega))
    obtain ⟨r0, r1, r2, r3, r4, -⟩ := id R1
    obtain ⟨vs, hv1, hv2⟩ := t4 i (by omega)
    iterate 2 refine h_s rfl ?_
    refine h_gf rfl rfl rfl t0 rfl ?_
    refine hN_ge rfl rfl rfl rfl (by omega) (by omega) (fun h31 => absurd h31 (by omega)) (fun h31 => ?_)
    iterate 2 refine h_s rfl ?_
    refine h_cv rfl rfl rfl t0 rfl rfl (x_atW (m := n) t0 t1 (by omega) hi) ?_
    refine h_n (st2 := [_]) rfl ?_
    iterate 3 refine h_s rfl ?_
    refine h_cv rfl rfl rfl r0 rfl rfl (x_at R1 hi) ?_
    refine h_n (st2 := [_]) rfl ?_
    iterate 7 refine h_s rfl ?_
    refine hq_v rfl rfl rfl hv1 rfl rfl (x_takeHouse hv1 hv2 (r3 i hi) (by omega)) (fun v2 w4 q4 => ?_)
    obtain ⟨rfl, e4, f4⟩ := q4
    refine h_n (st2 := []) rfl ?_
    refine h_ii rfl rfl rfl ?_
    refine h_s rfl ?_
    refine ih _ _ ⟨⟨_, _, rfl⟩, fun j hj => (f4 j (by omega)).trans (F j hj), (f4 _ (by omega)).trans t0, (f4 _ (by omega)).trans t1, (f4 _ (by omega)).trans t2, fun h hh => ?_, fun h hh => ?_⟩
    · by_cases e : h = i
      · subst e
        exact e4
      · exact (f4 _ (by omega)).trans (t3 h (by omega))
    · by_cases e : h = i
      · subst e
        exact ⟨_, e4, rfl⟩
      · obtain ⟨us, g1, g2⟩ := t4 h hh
        exact ⟨us, (f4 _ (by omega)).trans g1, g2⟩
  · obtain ⟨⟨x0, x1, rfl⟩, F, t0, t1, t2, t3, t4⟩ := hJ
    iterate 2 refine h_s rfl ?_
    refine h_gf rfl rfl rfl t0 rfl ?_
    refine hN_ge rfl rfl rfl rfl (by omega) (by omega) (fun h31 => ?_) (fun h31 => absurd (by omega) h31)
    refine h_k (y := 0) rfl rfl ?_
    refine h_s rfl ?_
    refine h_loop0 10 (fun i ls v => (∃ x0 x1, ls = [some (.ref r), some (.ref q), some (.int (nI i)), x0, x1]) ∧ (∀ j, (j < r ∨ r + 11 ≤ j) → v[j]? = w[j]?) ∧ v[r]? = some (.inl (2, [.ref (r + 1), .int (nI n), .int (bs (dB s) 14), .int (s.getD 1 0), .ref (r + 2)])) ∧ v[r + 1]? = some (.inl (7, rowHs r)) ∧ (∃ sp, v[r + 2]? = some (.inr sp) ∧ sp.length = 10 ∧ ∀ k, k < i → sp.getD k 0 = (s.drop 80).getD k 0) ∧ (∀ h, h < n → v[r + 3 + h]? = some (.inl (0, hL s h))) ∧ (∀ h, h < 8 → ∃ vs, v[r + 3 + h]? = some (.inl (0, vs)) ∧ vs.length = 9)) ⟨⟨_, _, rfl⟩, F, t0, t1, ⟨_, t2, by rw [List.length_drop, tl], fun k hk => absurd hk (by omega)⟩, t3, t4⟩ (fun i ls v hi hJ ih => ?_) (fun ls v hJ => ?_)
    · obtain ⟨⟨x0, x1, rfl⟩, F, t0, t1, ⟨sp, t2, hsp, g⟩, t3, t4⟩ := hJ
      have R1 := R0.fr (w1 := v) (fun j h1 h2 => F j (by omega))
      obtain ⟨r0, r1, r2, r3, r4, -⟩ := id R1
      have hdl : (s.drop 80).length = 10 := by rw [List.length_drop, hl]
      refine h_s rfl ?_
      refine h_k (y := 10) rfl rfl ?_
      refine hN_ge (b := 10) rfl rfl rfl rfl (by omega) (by omega) (fun h73 => absurd h73 (by omega)) (fun h73 => ?_)
      refine h_s rfl ?_
      refine h_gf rfl rfl rfl t0 rfl ?_
      iterate 2 refine h_s rfl ?_
      refine h_gf rfl rfl rfl r0 rfl ?_
      refine h_s rfl ?_
      refine h_c rfl (x_cell r2 (by omega) (by omega)) ?_
      refine h_n (st2 := [_, _, _]) rfl ?_
      refine hq_c rfl (x_put t2 (by omega) (j := i) (by omega) _) (fun v2 w4 q4 => ?_)
      obtain ⟨rfl, e4, f4⟩ := q4
      refine h_n (st2 := []) rfl ?_
      refine h_ii rfl rfl rfl ?_
      refine h_s rfl ?_
      refine ih _ _ ⟨⟨_, _, rfl⟩, fun j hj => (f4 j (by omega)).trans (F j hj), (f4 _ (by omega)).trans t0, (f4 _ (by omega)).trans t1, ⟨_, e4, by rw [List.length_set]; exact hsp, fun k hk => ?_⟩, fun h hh => (f4 _ (by omega)).trans (t3 h hh), fun h hh => ?_⟩
      · rw [gD_set _ _ _ _ (by omega)]
        by_cases e : k = i
        · rw [if_pos e, e]
        · rw [if_neg e]
          exact g k (by omega)
      · obtain ⟨us, g1, g2⟩ := t4 h hh
        exact ⟨us, (f4 _ (by omega)).trans g1, g2⟩
    · obtain ⟨⟨x0, x1, rfl⟩, F, t0, t1, ⟨sp, t2, hsp, g⟩, t3, t4⟩ := hJ
      refine h_s rfl ?_
      refine h_k (y := 10) rfl rfl ?_
      refine hN_ge (b := 10) rfl rfl rfl rfl (by omega) (by omega) (fun h73 => ?_) (fun h73 => absurd (by omega) h73)
      exact h_r rfl ⟨rfl, ⟨t0, t1, by rw [t2, l_ext hsp (by rw [List.length_drop, hl]) g], t3, t4, hl, h0, hn⟩, F⟩
set_option maxRecDepth 100000 in
set_option maxHeartbeats 4000000 in
theorem x_shiftBeds (R : RowW w r s n) (I : SI s n) : ab_Q X kX2_shiftBeds [.ref r] w (fun v w1 => v = none ∧ RowW w1 r (shiftS s n n) n ∧ ∀ i, (i < r ∨ r + 11 ≤ i) → w1[i]? = w[i]?) := by
  obtain ⟨-, -, -, -, -, hl0, -, hn8⟩ := id R
  show ab_H X kX2_shiftBeds 0 [some (.ref r), none, none] [] w _
  refine h_k (y := 0) rfl rfl ?_
  refine h_s rfl ?_
  refine h_loop0 n (fun i ls v => (∃ x0, ls = [some (.ref r), some (.int (nI i)), x0]) ∧ RowW v r (shiftS s n i) n ∧ ∀ j, (j < r ∨ r + 11 ≤ j) → v[j]? = w[j]?) ⟨⟨none, rfl⟩, R, fun _ _ => rfl⟩ (fun i ls v hi hJ ih => ?_) (fun ls v hJ => ?_)
  · obtain ⟨⟨x0, rfl⟩, R1, F⟩ := hJ
    have R0 := R1
    obtain ⟨r0, r1, r2, r3, r4, hl, h0, hn⟩ := R1
    obtain ⟨hb1, hb2⟩ := bedN_e I hn hi
    have g7 : fld (shiftS s n i) i 7 = nI (bedN s i) := (shift_D _ _ _ (fun h hh => by omega)).trans hb1
    iterate 2 refine h_s rfl ?_
    refine h_gf rfl rfl rfl r0 rfl ?_
    refine hN_ge rfl rfl rfl rfl (by omega) (by omega) (fun h7 => absurd h7 (by omega)) (fun h7 => ?_)
    iterate 2 refine h_s rfl ?_
    refine h_cv rfl rfl rfl r0 rfl rfl (x_at R0 hi) ?_
    refine h_n (st2 := [_]) rfl ?_
    iterate 5 refine h_s rfl ?_
    refine h_gf rfl rfl rfl (r3 _ (by omega)) rfl ?_
    refine h_k (y := 1) rfl rfl ?_
    refine h_Nadd (a := bedN s i) (b := 1) rfl g7 rfl ?_
    refine h_s rfl ?_
    refine h_gf rfl rfl rfl r0 rfl ?_
    refine hN_ge rfl rfl rfl rfl (by omega) (by omega) (fun h31 => ?_) (fun h31 => ?_)
    · refine h_k (y := 0) rfl rfl ?_
      refine h_pf rfl rfl (r3 i hi) rfl (fun w1 e1 f1 => ?_)
      refine h_ii rfl rfl rfl ?_
      refine h_s rfl ?_
      refine ih _ _ ⟨⟨_, rfl⟩, ?_, fun j hj => (f1 j (by omega)).trans (F j hj)⟩
      refine R0.setf (h := i) (j := 7) hi (by decide) ?_ f1
      rw [e1, show (bedN s i + 1) % n = 0 from by rw [show bedN s i + 1 = n by omega]; exact Nat.mod_self n]
      try rfl
    · refine h_s rfl ?_
      refine h_gf rfl rfl rfl (r3 _ (by omega)) rfl ?_
      refine h_k (y := 1) rfl rfl ?_
      refine h_Nadd (a := bedN s i) (b := 1) rfl g7 rfl ?_
      refine h_s rfl ?_
      refine h_pf rfl rfl (r3 i hi) rfl (fun w1 e1 f1 => ?_)
      refine h_ii rfl rfl rfl ?_
      refine h_s rfl ?_
      refine ih _ _ ⟨⟨_, rfl⟩, ?_, fun j hj => (f1 j (by omega)).trans (F j hj)⟩
      refine R0.setf (h := i) (j := 7) hi (by decide) ?_ f1
      rw [e1, show (bedN s i + 1) % n = bedN s i + 1 from Nat.mod_eq_of_lt (by omega)]
      try rfl
  · obtain ⟨⟨x0, rfl⟩, R1, F⟩ := hJ
    have R0 := R1
    obtain ⟨r0, r1, r2, r3, r4, hl, h0, hn⟩ := R1
    iterate 2 refine h_s rfl ?_
    refine h_gf rfl rfl rfl r0 rfl ?_
    refine hN_ge rfl rfl rfl rfl (by omega) (by omega) (fun h7 => ?_) (fun h7 => absurd (by omega) h7)
    exact h_r rfl ⟨rfl, R0, F⟩
end XH
