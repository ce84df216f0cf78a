/-! TEXT: the reference wants tokens, words, numbers -/
def MTk (w : ab_W) (s : List Int32) (n : Nat) (kp : Bool) (tp : List Int32) (tn i : Nat) (vl : Int32) (wr : Bool) : Prop := MT w s n kp tp tn (nI (tP tp tn i)) (nI (tkE tp tn (tP tp tn i))) vl wr
/-- what stands at token i, as a number -/
def wV (tp : List Int32) (tn i : Nat) : Nat := if tsN tp tn (tP tp tn i) = 1 then wvN (fun k => ltC (tp.getD (tP tp tn i + k) 0)) (tkE tp tn (tP tp tn i) - tP tp tn i) else 0
section MN
variable {X : List Int32} {w w1 : ab_W} {s : List Int32} {n : Nat} {kp : Bool} {tp : List Int32} {tn a e i : Nat} {fr to vl : Int32} {wr : Bool}
theorem tk_lt (h : tsN tp tn (tP tp tn i) = 1) : tkE tp tn (tP tp tn i) = runE ltB tp tn (tP tp tn i) := by
  have h1 := ts_lt.mp h
  unfold tkE
  by_cases q : tP tp tn i < tn
  · rw [byt_lt q] at h1
    rw [if_pos q, if_pos h1]
  · rw [byt_ge q] at h1
    exact absurd h1 (by decide)
theorem tk_dg (h : dgB (byt tp tn (tP tp tn i)) = true) : tkE tp tn (tP tp tn i) = runE dgB tp tn (tP tp tn i) := by
  unfold tkE
  by_cases q : tP tp tn i < tn
  · rw [byt_lt q] at h
    rw [if_pos q, if_neg (fun q2 => by rw [lt_dg q2] at h; cases h), if_pos h]
  · rw [byt_ge q] at h
    exact absurd h (by decide)
theorem wV_is {j : Nat} (hj : j < 17) : wV tp tn i = wdN j ↔ tkI tp tn i = j := by
  have hw := (wd_enc j hj).2.2.2
  unfold wV tkI
  by_cases h : tsN tp tn (tP tp tn i) = 1
  · rw [if_pos h, if_pos h, tk_lt h]
    have hr := run_ok (p := ltB) (tp := tp) (tn := tn) (a := tP tp tn i)
    have hl : ∀ k, tP tp tn i ≤ k → k < runE ltB tp tn (tP tp tn i) → ltB (tp.getD k 0) = true := fun k h1 h2 => (hr.2.1 k h1 h2).2
    rw [lst_iff hj hr.1 hl]
    exact wv_is hj hr.1 hl
  · rw [if_neg h, if_neg h]
    constructor
    · intro q; omega
    · intro q; omega
theorem wV_lt : wV tp tn i < 2 ^ 63 := by
  unfold wV
  split
  · rename_i h
    rw [tk_lt h]
    have hr := run_ok (p := ltB) (tp := tp) (tn := tn) (a := tP tp tn i)
    have h1 := wv_le (g := fun k => if k < runE ltB tp tn (tP tp tn i) - tP tp tn i then ltC (tp.getD (tP tp tn i + k) 0) else 0) (fun k => by
      show (if k < _ then _ else 0) ≤ 26
      split
      · exact (lt_c (hr.2.1 _ (by omega) (by omega)).2).2.1
      · exact Nat.zero_le _) (runE ltB tp tn (tP tp tn i) - tP tp tn i)
    rw [wv_c (g' := fun k => ltC (tp.getD (tP tp tn i + k) 0)) _ (fun k hk => if_pos hk)] at h1
    omega
  · decide
/-- the number at token i is below b, as the reference asks -/
theorem tkN_m {b : Nat} (hb : b ≤ 1000) : tkN tp tn i b = (dgB (byt tp tn (tP tp tn i)) && decide (tnV tp tn i < b)) := by
  unfold tkN
  by_cases h : dgB (byt tp tn (tP tp tn i)) = true
  · rw [h, Bool.true_and]
    rcases ts_dg.mp h with q | q
    · rw [decide_eq_true q, Bool.true_and]
    · have : 999 < tnV tp tn i := by
        have q1 := q.1
        unfold tsN at q1
        unfold tnV
        by_cases q2 : tP tp tn i < tn
        · rw [byt_lt q2] at h
          rw [if_pos q2, if_neg (fun q3 => by rw [lt_dg q3] at h; cases h), if_pos h] at q1
          split at q1
          · assumption
          · cases q1
        · rw [byt_ge q2] at h
          exact absurd h (by decide)
      rw [decide_eq_false (show ¬ tnV tp tn i < b by omega), Bool.and_false]
  · rw [Bool.eq_false_iff.mpr h, Bool.false_and, decide_eq_false (fun q => h (ts_dg.mpr (Or.inl q))), Bool.false_and]
set_option maxRecDepth 100000 in
set_option maxHeartbeats 4000000 in
theorem m_wants (T : MTk w s n kp tp tn i vl false) (b : Bool) : ab_Q X kX6_wants [.ref 54, .int (z01 b)] w (fun v w1 => v = none ∧ ((b = true ∧ MTk w1 s n kp tp tn (i + 1) vl false) ∨ (b = false ∧ MTk w1 s n kp tp tn i vl true)) ∧ ∀ j, j ≠ 54 → w1[j]? = w[j]?) := by
  have T1 := T
  have T0 := T
  obtain ⟨a54, a55, a60, hl, h0, hn, tl, htn⟩ := T
  have F : ∀ j, j ≠ 54 → w[j]? = w[j]? := fun _ _ => rfl
  have hP := tP_le (tp := tp) (tn := tn) i
  have hE := tk_le (tp := tp) (tn := tn) hP
  show ab_H X kX6_wants 0 [some (.ref 54), some (.int (z01 b))] [] w _
  iterate 2 refine h_s rfl ?_
  refine h_gf rfl rfl rfl a54 rfl ?_
  refine hz_ne rfl rfl (fun h5 => absurd (show (true = false) from h5.symm.trans (show _ = false from rfl)) (by decide)) (fun h5 => ?_)
  refine h_s rfl ?_
  refine hz_ne rfl rfl (fun h9 => ?_) (fun h9 => ?_)
  · refine h_k (y := 0) rfl rfl ?_
    refine h_pf rfl rfl a54 rfl (fun w5 e5 f5 => ?_)
    have a54 : w5[54]? = some (.inl (6, mObj kp tn (nI (tP tp tn i)) (nI (tkE tp tn (tP tp tn i))) vl false)) := e5
    have T5 := T0.fr54 a54 htn f5
    refine h_s rfl ?_
    refine h_gf rfl rfl rfl a54 rfl ?_
    refine hz_ne rfl rfl (fun h24 => absurd (show (true = false) from h24.symm.trans (show _ = false from rfl)) (by decide)) (fun h24 => ?_)
    refine h_s rfl ?_
    refine hq_v rfl rfl rfl a54 rfl rfl (m_token T5 hE) (fun v6 w6 q6 => ?_)
    obtain ⟨rfl, T6, f6⟩ := q6
    refine h_n (st2 := []) rfl ?_
    exact h_r rfl ⟨rfl, Or.inl ⟨h9, T6⟩, fun j hj => (f6 j hj).trans (f5 j hj)⟩
  · refine h_k (y := 1) rfl rfl ?_
    refine h_s rfl ?_
    refine h_pf rfl rfl a54 rfl (fun w5 e5 f5 => ?_)
    have a54 : w5[54]? = some (.inl (6, mObj kp tn (nI (tP tp tn i)) (nI (tkE tp tn (tP tp tn i))) vl true)) := e5
    have T5 := T0.fr54 a54 htn f5
    refine h_s rfl ?_
    refine h_gf rfl rfl rfl a54 rfl ?_
    refine hz_ne rfl rfl (fun h24 => ?_) (fun h24 => absurd (show (true = false) from (show _ = true from rfl).symm.trans h24) (by decide))
    exact h_r rfl ⟨rfl, Or.inr ⟨h9, T5⟩, f5⟩
set_option maxRecDepth 100000 in
set_option maxHeartbeats 4000000 in
theorem m_wantsW (T : MTk w s n kp tp tn i vl true) (x : Int32) : ab_Q X kX6_wants [.ref 54, .int x] w (fun v w1 => v = none ∧ MTk w1 s n kp tp tn i vl true ∧ ∀ j, j ≠ 54 → w1[j]? = w[j]?) := by
  have T1 := T
  have T0 := T
  obtain ⟨a54, a55, a60, hl, h0, hn, tl, htn⟩ := T
  have F : ∀ j, j ≠ 54 → w[j]? = w[j]? := fun _ _ => rfl
  have hP := tP_le (tp := tp) (tn := tn) i
  have hE := tk_le (tp := tp) (tn := tn) hP
  show ab_H X kX6_wants 0 [some (.ref 54), some (.int x)] [] w _
  iterate 2 refine h_s rfl ?_
  refine h_gf rfl rfl rfl a54 rfl ?_
  refine hz_ne rfl rfl (fun h5 => ?_) (fun h5 => absurd (show (true = false) from (show _ = true from rfl).symm.trans h5) (by decide))
  refine h_k (y := 1) rfl rfl ?_
  refine h_s rfl ?_
  refine h_pf rfl rfl a54 rfl (fun w5 e5 f5 => ?_)
  have a54 : w5[54]? = some (.inl (6, mObj kp tn (nI (tP tp tn i)) (nI (tkE tp tn (tP tp tn i))) vl true)) := e5
  have T5 := T0.fr54 a54 htn f5
  refine h_s rfl ?_
  refine h_gf rfl rfl rfl a54 rfl ?_
  refine hz_ne rfl rfl (fun h24 => ?_) (fun h24 => absurd (show (true = false) from (show _ = true from rfl).symm.trans h24) (by decide))
  exact h_r rfl ⟨rfl, T5, f5⟩
theorem m_isWr (T : MTk w s n kp tp tn i vl wr) : w[54]? = some (.inl (6, mObj kp tn (nI (tP tp tn i)) (nI (tkE tp tn (tP tp tn i))) vl wr)) := T.1
theorem tk_gt1 (h : tP tp tn i < tn) : tP tp tn i < tkE tp tn (tP tp tn i) := tk_gt h
theorem tk_ge : tP tp tn i ≤ tkE tp tn (tP tp tn i) := by
  rcases Nat.lt_or_ge (tP tp tn i) tn with h | h
  · exact Nat.le_of_lt (tk_gt h)
  · unfold tkE
    rw [if_neg (by omega)]
    exact Nat.le_refl _
set_option maxRecDepth 100000 in
set_option maxHeartbeats 4000000 in
theorem m_word (T : MTk w s n kp tp tn i vl wr) : ab_M X kX6_word [.ref 54] w (some (.long (l6N (if wr = true then 0 else wV tp tn i)))) w := by
  have T1 := T
  have T0 := T
  obtain ⟨a54, a55, a60, hl, h0, hn, tl, htn⟩ := T
  have hP := tP_le (tp := tp) (tn := tn) i
  have hE := tk_le (tp := tp) (tn := tn) hP
  have hge := tk_ge (tp := tp) (tn := tn) (i := i)
  have hVl := wV_lt (tp := tp) (tn := tn) (i := i)
  have hlet0 : ltB (byt tp tn (tP tp tn i)) = true → ∀ j, tP tp tn i ≤ j → j < tkE tp tn (tP tp tn i) → ltB (tp.getD j 0) = true := fun q j h1 h2 => by
    rw [tk_lt (ts_lt.mpr q)] at h2
    exact ((run_ok (p := ltB) (tp := tp) (tn := tn) (a := tP tp tn i)).2.1 j h1 h2).2
  obtain ⟨a, hPa⟩ : ∃ a, tP tp tn i = a := ⟨_, rfl⟩
  obtain ⟨e, hEe⟩ : ∃ e, tkE tp tn a = e := ⟨_, rfl⟩
  have hlet : ltB (byt tp tn a) = true → ∀ j, a ≤ j → j < e → ltB (tp.getD j 0) = true := by rw [← hEe, ← hPa]; exact hlet0
  have hvl : ltB (byt tp tn a) = true → ∀ k, k < e - a → wvN (fun k => ltC (tp.getD (a + k) 0)) k < 2 ^ 63 := fun q k hk => by
    have h1 := wv_le (g := fun k => if k < e - a then ltC (tp.getD (a + k) 0) else 0) (fun k => by
      show (if k < _ then _ else 0) ≤ 26
      split
      · exact (lt_c (hlet q _ (by omega) (by omega))).2.1
      · exact Nat.zero_le _) k
    rw [wv_c (g' := fun k => ltC (tp.getD (a + k) 0)) k (fun j hj => if_pos (show j < e - a by omega))] at h1
    omega
  rw [hPa, hEe] at a54 hge hE
  rw [hPa] at hP
  show ab_G X kX6_word 0 [some (.ref 54), none, none, none] [] w _ _
  iterate 3 refine ab_s rfl ?_
  refine ab_gf rfl rfl rfl a54 rfl ?_
  refine ab_s rfl ?_
  refine g_loop0 (e - a) (fun k ls => ∃ u x2, ls = [some (.ref 54), some (.long u), x2, some (.int (nI (a + k)))] ∧ (ltB (byt tp tn a) = true → u = l6N (wvN (fun k => ltC (tp.getD (a + k) 0)) k))) ⟨_, _, rfl, fun _ => rfl⟩ (fun k ls hk hJ ih => ?_) (fun ls hJ => ?_)
  · obtain ⟨u, x2, rfl, hu⟩ := hJ
    have hs : wvN (fun k => ltC (tp.getD (a + k) 0)) (k + 1) = if 36028797018963967 < wvN (fun k => ltC (tp.getD (a + k) 0)) k then wvN (fun k => ltC (tp.getD (a + k) 0)) k else 32 * wvN (fun k => ltC (tp.getD (a + k) 0)) k + ltC (tp.getD (a + k) 0) := rfl
    iterate 2 refine ab_s rfl ?_
    refine ab_gf rfl rfl rfl a54 rfl ?_
    refine jN_ge rfl rfl rfl rfl (by omega) (by omega) (fun h12 => absurd h12 (by omega)) (fun h12 => ?_)
    iterate 3 refine ab_s rfl ?_
    refine j1_le rfl rfl (fun h20 => ?_) (fun h20 => ?_)
    · refine ab_s rfl ?_
      iterate 3 refine ab_s rfl ?_
      refine ab_gf rfl rfl rfl a54 rfl ?_
      refine ab_s rfl ?_
      refine ab_ia _ rfl a60 (by omega) rfl (by omega) ?_
      refine ab_k (y := 96) rfl rfl ?_
      iterate 4 refine ab_s rfl ?_
      refine ab_ii rfl rfl rfl ?_
      refine ab_s rfl ?_
      refine ih _ ⟨_, _, rfl, fun q => ?_⟩
      have hlt := hlet q (a + k) (by omega) (by omega)
      have hv := hvl q k (by omega)
      rw [hu q, ← Int32.not_lt, cmp_p, show (36028797018963967 : Int64) = l6N 36028797018963967 from rfl, l6N_lt (by decide) (by omega)] at h20
      rw [hs, if_neg h20]
      obtain ⟨c1, c2, c3⟩ := lt_c hlt
      rw [← l6N_s, ← lt_64 _ c2, ← c3, hu q]
      rfl
    · iterate 3 refine ab_s rfl ?_
      refine ab_ii rfl rfl rfl ?_
      refine ab_s rfl ?_
      refine ih _ ⟨_, _, rfl, fun q => ?_⟩
      have hlt := hlet q (a + k) (by omega) (by omega)
      have hv := hvl q k (by omega)
      rw [hu q, Int32.not_le, cmp_p, show (36028797018963967 : Int64) = l6N 36028797018963967 from rfl, l6N_lt (by decide) (by omega)] at h20
      rw [hs, if_pos h20]
      exact hu q
  · obtain ⟨u, x2, rfl, hu⟩ := hJ
    iterate 2 refine ab_s rfl ?_
    refine ab_gf rfl rfl rfl a54 rfl ?_
    refine jN_ge rfl rfl rfl rfl (by omega) (by omega) (fun h12 => ?_) (fun h12 => absurd (by omega) h12)
    refine ab_s rfl ?_
    refine ab_gf rfl rfl rfl a54 rfl ?_
    refine z1_ne rfl rfl (fun h54 => ?_) (fun h54 => ?_)
    · iterate 2 refine ab_s rfl ?_
      refine ab_r (v := some (.long _)) ?_
      rw [show (if wr = true then 0 else wV tp tn i) = 0 from by rw [if_pos h54]]
      rfl
    · iterate 2 refine ab_s rfl ?_
      refine ab_gf rfl rfl rfl a54 rfl ?_
      refine ab_cv rfl rfl rfl a54 rfl rfl (m_byteAt T0 (a := a) (by omega)) ?_
      refine ab_n (st2 := [_]) rfl ?_
      refine ab_c rfl (m_isLetter _) ?_
      refine ab_n (st2 := [_]) rfl ?_
      refine z1_ne rfl rfl (fun h68 => ?_) (fun h68 => ?_)
      · refine ab_s rfl ?_
        refine ab_r (v := some (.long _)) ?_
        rw [if_neg (by rw [h54]; decide), show wV tp tn i = wvN (fun k => ltC (tp.getD (a + k) 0)) (e - a) from by unfold wV; rw [hPa, hEe, if_pos (ts_lt.mpr h68)], ← hu h68]
        rfl
      · iterate 2 refine ab_s rfl ?_
        refine ab_r (v := some (.long _)) ?_
        rw [if_neg (by rw [h54]; decide), show wV tp tn i = 0 from if_neg (fun q => by rw [hPa, ts_lt, h68] at q; cases q)]
        rfl
end MN
