/-! TEXT: the reference's items: names, bed, door; all of them -/
section MJ
variable {X : List Int32} {w w1 : ab_W} {s : List Int32} {n : Nat} {kp : Bool} {tp : List Int32} {tn a e i : Nat} {fr to vl : Int32} {wr : Bool}
theorem tP_stay {m : Nat} (h : tP tp tn m = tn) : ∀ d, tP tp tn (m + d) = tn
  | 0 => h
  | d + 1 => tP_end (tP_stay h d)
theorem tP_120 (htn : tn ≤ 120) (h : tP tp tn i < tn) : i < 120 := by
  obtain ⟨m, h1, h2, h3⟩ := tp_end (tp := tp) htn
  rcases Nat.lt_or_ge i m with q | q
  · omega
  · have := tP_stay h2 (i - m)
    rw [show m + (i - m) = i by omega] at this
    omega
theorem ts_120 (htn : tn ≤ 120) (h : ¬ tsN tp tn (tP tp tn i) = 0) : i < 120 := tP_120 (tp := tp) (i := i) htn (by rw [ts_0] at h; omega)
theorem tkN_120 {b : Nat} (htn : tn ≤ 120) (h : tkN tp tn i b = true) : i < 120 := ts_120 htn (by rw [(tkN_ts h).1]; decide)
theorem mk_or (s : List Int32) (h fi f : Nat) : s.getD (2 + 8 * h + fi) 0 ||| ((1 : Int32) <<< (nI f &&& 31)) = markI (fld s h fi) f true := rfl
set_option maxRecDepth 100000 in
set_option maxHeartbeats 4000000 in
theorem m_namesItem_2 (T : MTk w s n kp tp tn i vl false)  : ab_Q X kX6_namesItem [.ref 54, .int 2] w (MI w kp tp tn (rdNames tp tn 2 (i + 1) s n)) := by
  have F : ∀ j, j ≠ 54 → j ≠ 55 → w[j]? = w[j]? := fun _ _ _ => rfl
  have T1 := T
  obtain ⟨a54, a55, a60, hl, h0, hn, tl, htn⟩ := id T
  show ab_H X kX6_namesItem 0 [some (.ref 54), some (.int 2), none, none] [] w _
  refine h_s rfl ?_
  refine h_k (y := 1) rfl rfl ?_
  refine hq_v rfl rfl rfl a54 rfl rfl (m_wants T1 true) (fun v35 w35 q35 => ?_)
  obtain ⟨rfl, T, g35⟩ := q35
  replace T := (T.resolve_right (fun q => by cases q.1)).2
  have F := fun j h1 h2 => (g35 j h1).trans (F j h1 h2)
  have T1 := T
  obtain ⟨a54, a55, a60, hl, h0, hn, tl, htn⟩ := id T
  refine h_n (st2 := []) rfl ?_
  refine h_s rfl ?_
  refine h_k (y := 0) rfl rfl ?_
  refine h_s rfl ?_
  refine h_gf rfl rfl rfl a54 rfl ?_
  refine h_k (y := 0) rfl rfl ?_
  refine h_ia (0) rfl a55 (by omega) rfl (by omega) ?_
  refine h_t h0 ?_
  refine h_k (y := 1) rfl rfl ?_
  refine h_s rfl ?_
  refine hq_v rfl rfl rfl a54 rfl rfl (m_number T1 (b := n) (by omega) (nsub1 hn)) (fun v34 w34 q34 => ?_)
  obtain ⟨rfl, T, g34⟩ := q34
  have F := fun j h1 h2 => (g34 j h1).trans (F j h1 h2)
  rcases T with ⟨k34, T⟩ | ⟨k34, vl1, T⟩
  · have T1 := T
    obtain ⟨a54, a55, a60, hl, h0, hn, tl, htn⟩ := id T
    refine h_n (st2 := []) rfl ?_
    refine h_s rfl ?_
    refine h_gf rfl rfl rfl a54 rfl ?_
    refine h_s rfl ?_
    refine h_k (y := 1) rfl rfl ?_
    refine h_s rfl ?_
    have hh8 := (tkN_ts k34).2
    have hl120 := tkN_120 htn k34
    refine h_loop0 121 (fun k ls v => ∃ j s2 vl, ls = [some (.ref 54), some (.int 2), some (.int (nI (tnV tp tn (i + 1)))), some (.int (z01 true))] ∧ j = i + 2 + k ∧ j ≤ 120 ∧ MTk v s2 n kp tp tn j vl false ∧ (∀ q, q ≠ 54 → q ≠ 55 → v[q]? = w[q]?) ∧ (rdNames tp tn 2 (i + 1) s n = rdNamF tp tn 2 (tnV tp tn (i + 1)) (121 - k) j s2 n ∨ (tsN tp tn (tP tp tn j) = 4 ∧ rdNames tp tn 2 (i + 1) s n = ⟨true, j, s2, n⟩))) ⟨_, _, _, rfl, rfl, by omega, T, F, Or.inl (if_pos k34)⟩ (fun k ls v hk hJ ih => ?_) (fun ls v hJ => ?_)
    · obtain ⟨j, s2, vl2, rfl, rfl, hj120, T, F, hE⟩ := hJ
      obtain ⟨g, hg⟩ : ∃ g, 121 - k = g + 1 := ⟨120 - k, by omega⟩
      have T1 := T
      obtain ⟨a54, a55, a60, hl, h0, hn, tl, htn⟩ := id T
      refine h_s rfl ?_
      refine hz_eq rfl rfl (fun h26 => absurd (show (true = false) from (show _ = true from rfl).symm.trans h26) (by decide)) (fun h26 => ?_)
      refine h_s rfl ?_
      refine h_gf rfl rfl rfl a54 rfl ?_
      refine hz_ne rfl rfl (fun h33 => absurd (show (true = false) from h33.symm.trans (show _ = false from rfl)) (by decide)) (fun h33 => ?_)
      refine h_s rfl ?_
      refine h_k (y := 0) rfl rfl ?_
      refine h_k (y := 7) rfl rfl ?_
      refine hq_v rfl rfl rfl a54 rfl rfl (m_number T1 (b := 8) (by omega) (by decide)) (fun v32 w32 q32 => ?_)
      obtain ⟨rfl, T, g32⟩ := q32
      have F := fun j h1 h2 => (g32 j h1).trans (F j h1 h2)
      rcases T with ⟨k32, T⟩ | ⟨k32, vl1, T⟩
      · have T1 := T
        obtain ⟨a54, a55, a60, hl, h0, hn, tl, htn⟩ := id T
        refine h_n (st2 := []) rfl ?_
        refine h_s rfl ?_
        refine h_gf rfl rfl rfl a54 rfl ?_
        refine hz_ne rfl rfl (fun h47 => absurd (show (true = false) from h47.symm.trans (show _ = false from rfl)) (by decide)) (fun h47 => ?_)
        refine h_s rfl ?_
        refine h_gf rfl rfl rfl a54 rfl ?_
        iterate 2 refine h_s rfl ?_
        refine h_c rfl (m_at (tnV tp tn (i + 1)) 2 rfl rfl) ?_
        refine h_n (st2 := [_, _]) rfl ?_
        refine h_s rfl ?_
        refine h_ia _ rfl a55 (by omega) rfl (by omega) ?_
        refine h_k (y := 1) rfl rfl ?_
        refine h_s rfl ?_
        refine h_gf rfl rfl rfl a54 rfl ?_
        iterate 2 refine h_s rfl ?_
        refine h_is (2 + 8 * tnV tp tn (i + 1) + 2) rfl a55 (by omega) rfl (by omega) (fun w33 e33 f33 => ?_)
        replace T := MT.fr55 T e33 (by rw [List.length_set]; exact hl) (by rw [gD_ne (by omega)]; exact h0) hn f33
        have F := fun j h1 h2 => (f33 j h2).trans (F j h1 h2)
        have T : MTk _ _ _ _ _ _ _ _ _ := T
        have T1 := T
        obtain ⟨a54, a55, a60, hl, h0, hn, tl, htn⟩ := id T
        iterate 2 refine h_s rfl ?_
        refine h_gf rfl rfl rfl a54 rfl ?_
        refine h_cv rfl rfl rfl a54 rfl rfl (m_byteAt T1 (a := tP tp tn (i + 2 + k + 1)) (by have := tP_le (tp := tp) (tn := tn) (i + 2 + k + 1); omega)) ?_
        refine h_n (st2 := [_]) rfl ?_
        refine h_c rfl (m_isDigit _) ?_
        refine h_n (st2 := [_]) rfl ?_
        iterate 2 refine h_s rfl ?_
        rw [mk_or] at T
        have h2 : tsN tp tn (tP tp tn (i + 2 + k)) = 2 := (tkN_ts k32).1
        have hE1 : rdNames tp tn 2 (i + 1) s n = rdNamF tp tn 2 (tnV tp tn (i + 1)) (121 - k) (i + 2 + k) s2 n := by
          rcases hE with q | ⟨q, -⟩
          · exact q
          · rw [h2] at q; cases q
        rw [hg, rdNamF, if_pos k32] at hE1
        have hl120 := tkN_120 htn k32
        obtain ⟨bd, hbd⟩ : ∃ bd, dgB (byt tp tn (tP tp tn (i + 2 + k + 1))) = bd := ⟨_, rfl⟩
        rw [hbd]
        cases bd with
        | true =>
          refine ih _ _ ⟨_, _, _, rfl, rfl, by omega, T, F, ?_⟩
          by_cases q : tsN tp tn (tP tp tn (i + 2 + k + 1)) = 2
          · rw [if_pos q] at hE1
            rw [hE1, show 121 - (k + 1) = g by omega]
            exact Or.inl rfl
          · rw [if_neg q] at hE1
            refine Or.inr ⟨?_, hE1⟩
            rcases ts_dg.mp hbd with q2 | q2
            · exact absurd q2 q
            · exact q2.1
        | false =>
          rw [if_neg (fun q => by rw [ts_dg.mpr (Or.inl q)] at hbd; cases hbd)] at hE1
          rw [hE1]
          refine h_s rfl ?_
          refine hz_eq rfl rfl (fun h26 => ?_) (fun h26 => absurd (show (true = false) from h26.symm.trans (show _ = false from rfl)) (by decide))
          exact h_r rfl ⟨rfl, Or.inl ⟨rfl, _, T⟩, F⟩
      · have T1 := T
        obtain ⟨a54, a55, a60, hl, h0, hn, tl, htn⟩ := id T
        refine h_n (st2 := []) rfl ?_
        refine h_s rfl ?_
        refine h_gf rfl rfl rfl a54 rfl ?_
        refine hz_ne rfl rfl (fun h47 => ?_) (fun h47 => absurd (show (true = false) from (show _ = true from rfl).symm.trans h47) (by decide))
        have hbad : ∃ p, rdNames tp tn 2 (i + 1) s n = p ∧ p.i = i + 2 + k ∧ (p.ok = false ∨ tsN tp tn (tP tp tn p.i) = 4) := by
          rcases hE with q | ⟨q1, q2⟩
          · refine ⟨_, q, ?_⟩
            rw [hg, rdNamF, if_neg (by rw [k32]; decide)]
            exact ⟨rfl, Or.inl rfl⟩
          · exact ⟨_, q2, rfl, Or.inr q1⟩
        obtain ⟨p, hp, hpi, hpb⟩ := hbad
        rw [hp]
        refine h_s rfl ?_
        refine hz_eq rfl rfl (fun h26 => absurd (show (true = false) from (show _ = true from rfl).symm.trans h26) (by decide)) (fun h26 => ?_)
        refine h_s rfl ?_
        refine h_gf rfl rfl rfl a54 rfl ?_
        refine hz_ne rfl rfl (fun h33 => ?_) (fun h33 => absurd (show (true = false) from (show _ = true from rfl).symm.trans h33) (by decide))
        exact h_r rfl ⟨rfl, Or.inr ⟨hpb, _, _, _, by rw [hpi]; exact T⟩, F⟩
    · obtain ⟨j, s2, vl2, rfl, rfl, hj120, T, F, hE⟩ := hJ
      exact absurd hj120 (by omega)
  · have T1 := T
    obtain ⟨a54, a55, a60, hl, h0, hn, tl, htn⟩ := id T
    refine h_n (st2 := []) rfl ?_
    refine h_s rfl ?_
    refine h_gf rfl rfl rfl a54 rfl ?_
    refine h_s rfl ?_
    refine h_k (y := 1) rfl rfl ?_
    refine h_s rfl ?_
    rw [show rdNames tp tn 2 (i + 1) s n = ⟨false, i + 1, s, n⟩ from if_neg (by rw [k34]; decide)]
    iterate 3 refine h_s rfl ?_
    refine h_gf rfl rfl rfl a54 rfl ?_
    refine hz_ne rfl rfl (fun h33 => ?_) (fun h33 => absurd (show (true = false) from (show _ = true from rfl).symm.trans h33) (by decide))
    exact h_r rfl ⟨rfl, Or.inr ⟨Or.inl rfl, _, _, _, T⟩, F⟩
set_option maxRecDepth 100000 in
set_option maxHeartbeats 4000000 in
theorem m_namesItem_5 (T : MTk w s n kp tp tn i vl false)  : ab_Q X kX6_namesItem [.ref 54, .int 5] w (MI w kp tp tn (rdNames tp tn 5 (i + 1) s n)) := by
  have F : ∀ j, j ≠ 54 → j ≠ 55 → w[j]? = w[j]? := fun _ _ _ => rfl
  have T1 := T
  obtain ⟨a54, a55, a60, hl, h0, hn, tl, htn⟩ := id T
  show ab_H X kX6_namesItem 0 [some (.ref 54), some (.int 5), none, none] [] w _
  refine h_s rfl ?_
  refine h_k (y := 1) rfl rfl ?_
  refine hq_v rfl rfl rfl a54 rfl rfl (m_wants T1 true) (fun v39 w39 q39 => ?_)
  obtain ⟨rfl, T, g39⟩ := q39
  replace T := (T.resolve_right (fun q => by cases q.1)).2
  have F := fun j h1 h2 => (g39 j h1).trans (F j h1 h2)
  have T1 := T
  obtain ⟨a54, a55, a60, hl, h0, hn, tl, htn⟩ := id T
  refine h_n (st2 := []) rfl ?_
  refine h_s rfl ?_
  refine h_k (y := 0) rfl rfl ?_
  refine h_s rfl ?_
  refine h_gf rfl rfl rfl a54 rfl ?_
  refine h_k (y := 0) rfl rfl ?_
  refine h_ia (0) rfl a55 (by omega) rfl (by omega) ?_
  refine h_t h0 ?_
  refine h_k (y := 1) rfl rfl ?_
  refine h_s rfl ?_
  refine hq_v rfl rfl rfl a54 rfl rfl (m_number T1 (b := n) (by omega) (nsub1 hn)) (fun v38 w38 q38 => ?_)
  obtain ⟨rfl, T, g38⟩ := q38
  have F := fun j h1 h2 => (g38 j h1).trans (F j h1 h2)
  rcases T with ⟨k38, T⟩ | ⟨k38, vl1, T⟩
  · have T1 := T
    obtain ⟨a54, a55, a60, hl, h0, hn, tl, htn⟩ := id T
    refine h_n (st2 := []) rfl ?_
    refine h_s rfl ?_
    refine h_gf rfl rfl rfl a54 rfl ?_
    refine h_s rfl ?_
    refine h_k (y := 1) rfl rfl ?_
    refine h_s rfl ?_
    have hh8 := (tkN_ts k38).2
    have hl120 := tkN_120 htn k38
    refine h_loop0 121 (fun k ls v => ∃ j s2 vl, ls = [some (.ref 54), some (.int 5), some (.int (nI (tnV tp tn (i + 1)))), some (.int (z01 true))] ∧ j = i + 2 + k ∧ j ≤ 120 ∧ MTk v s2 n kp tp tn j vl false ∧ (∀ q, q ≠ 54 → q ≠ 55 → v[q]? = w[q]?) ∧ (rdNames tp tn 5 (i + 1) s n = rdNamF tp tn 5 (tnV tp tn (i + 1)) (121 - k) j s2 n ∨ (tsN tp tn (tP tp tn j) = 4 ∧ rdNames tp tn 5 (i + 1) s n = ⟨true, j, s2, n⟩))) ⟨_, _, _, rfl, rfl, by omega, T, F, Or.inl (if_pos k38)⟩ (fun k ls v hk hJ ih => ?_) (fun ls v hJ => ?_)
    · obtain ⟨j, s2, vl2, rfl, rfl, hj120, T, F, hE⟩ := hJ
      obtain ⟨g, hg⟩ : ∃ g, 121 - k = g + 1 := ⟨120 - k, by omega⟩
      have T1 := T
      obtain ⟨a54, a55, a60, hl, h0, hn, tl, htn⟩ := id T
      refine h_s rfl ?_
      refine hz_eq rfl rfl (fun h26 => absurd (show (true = false) from (show _ = true from rfl).symm.trans h26) (by decide)) (fun h26 => ?_)
      refine h_s rfl ?_
      refine h_gf rfl rfl rfl a54 rfl ?_
      refine hz_ne rfl rfl (fun h33 => absurd (show (true = false) from h33.symm.trans (show _ = false from rfl)) (by decide)) (fun h33 => ?_)
      refine h_s rfl ?_
      refine h_k (y := 0) rfl rfl ?_
      refine h_k (y := 7) rfl rfl ?_
      refine hq_v rfl rfl rfl a54 rfl rfl (m_number T1 (b := 8) (by omega) (by decide)) (fun v36 w36 q36 => ?_)
      obtain ⟨rfl, T, g36⟩ := q36
      have F := fun j h1 h2 => (g36 j h1).trans (F j h1 h2)
      rcases T with ⟨k36, T⟩ | ⟨k36, vl1, T⟩
      · have T1 := T
        obtain ⟨a54, a55, a60, hl, h0, hn, tl, htn⟩ := id T
        refine h_n (st2 := []) rfl ?_
        refine h_s rfl ?_
        refine h_gf rfl rfl rfl a54 rfl ?_
        refine hz_ne rfl rfl (fun h47 => absurd (show (true = false) from h47.symm.trans (show _ = false from rfl)) (by decide)) (fun h47 => ?_)
        refine h_s rfl ?_
        refine h_gf rfl rfl rfl a54 rfl ?_
        iterate 2 refine h_s rfl ?_
        refine h_c rfl (m_at (tnV tp tn (i + 1)) 5 rfl rfl) ?_
        refine h_n (st2 := [_, _]) rfl ?_
        refine h_s rfl ?_
        refine h_ia _ rfl a55 (by omega) rfl (by omega) ?_
        refine h_k (y := 1) rfl rfl ?_
        refine h_s rfl ?_
        refine h_gf rfl rfl rfl a54 rfl ?_
        iterate 2 refine h_s rfl ?_
        refine h_is (2 + 8 * tnV tp tn (i + 1) + 5) rfl a55 (by omega) rfl (by omega) (fun w37 e37 f37 => ?_)
        replace T := MT.fr55 T e37 (by rw [List.length_set]; exact hl) (by rw [gD_ne (by omega)]; exact h0) hn f37
        have F := fun j h1 h2 => (f37 j h2).trans (F j h1 h2)
        have T : MTk _ _ _ _ _ _ _ _ _ := T
        have T1 := T
        obtain ⟨a54, a55, a60, hl, h0, hn, tl, htn⟩ := id T
        iterate 2 refine h_s rfl ?_
        refine h_gf rfl rfl rfl a54 rfl ?_
        refine h_cv rfl rfl rfl a54 rfl rfl (m_byteAt T1 (a := tP tp tn (i + 2 + k + 1)) (by have := tP_le (tp := tp) (tn := tn) (i + 2 + k + 1); omega)) ?_
        refine h_n (st2 := [_]) rfl ?_
        refine h_c rfl (m_isDigit _) ?_
        refine h_n (st2 := [_]) rfl ?_
        iterate 2 refine h_s rfl ?_
        rw [mk_or] at T
        have h2 : tsN tp tn (tP tp tn (i + 2 + k)) = 2 := (tkN_ts k36).1
        have hE1 : rdNames tp tn 5 (i + 1) s n = rdNamF tp tn 5 (tnV tp tn (i + 1)) (121 - k) (i + 2 + k) s2 n := by
          rcases hE with q | ⟨q, -⟩
          · exact q
          · rw [h2] at q; cases q
        rw [hg, rdNamF, if_pos k36] at hE1
        have hl120 := tkN_120 htn k36
        obtain ⟨bd, hbd⟩ : ∃ bd, dgB (byt tp tn (tP tp tn (i + 2 + k + 1))) = bd := ⟨_, rfl⟩
        rw [hbd]
        cases bd with
        | true =>
          refine ih _ _ ⟨_, _, _, rfl, rfl, by omega, T, F, ?_⟩
          by_cases q : tsN tp tn (tP tp tn (i + 2 + k + 1)) = 2
          · rw [if_pos q] at hE1
            rw [hE1, show 121 - (k + 1) = g by omega]
            exact Or.inl rfl
          · rw [if_neg q] at hE1
            refine Or.inr ⟨?_, hE1⟩
            rcases ts_dg.mp hbd with q2 | q2
            · exact absurd q2 q
            · exact q2.1
        | false =>
          rw [if_neg (fun q => by rw [ts_dg.mpr (Or.inl q)] at hbd; cases hbd)] at hE1
          rw [hE1]
          refine h_s rfl ?_
          refine hz_eq rfl rfl (fun h26 => ?_) (fun h26 => absurd (show (true = false) from h26.symm.trans (show _ = false from rfl)) (by decide))
          exact h_r rfl ⟨rfl, Or.inl ⟨rfl, _, T⟩, F⟩
      · have T1 := T
        obtain ⟨a54, a55, a60, hl, h0, hn, tl, htn⟩ := id T
        refine h_n (st2 := []) rfl ?_
        refine h_s rfl ?_
        refine h_gf rfl rfl rfl a54 rfl ?_
        refine hz_ne rfl rfl (fun h47 => ?_) (fun h47 => absurd (show (true = false) from (show _ = true from rfl).symm.trans h47) (by decide))
        have hbad : ∃ p, rdNames tp tn 5 (i + 1) s n = p ∧ p.i = i + 2 + k ∧ (p.ok = false ∨ tsN tp tn (tP tp tn p.i) = 4) := by
          rcases hE with q | ⟨q1, q2⟩
          · refine ⟨_, q, ?_⟩
            rw [hg, rdNamF, if_neg (by rw [k36]; decide)]
            exact ⟨rfl, Or.inl rfl⟩
          · exact ⟨_, q2, rfl, Or.inr q1⟩
        obtain ⟨p, hp, hpi, hpb⟩ := hbad
        rw [hp]
        refine h_s rfl ?_
        refine hz_eq rfl rfl (fun h26 => absurd (show (true = false) from (show _ = true from rfl).symm.trans h26) (by decide)) (fun h26 => ?_)
        refine h_s rfl ?_
        refine h_gf rfl rfl rfl a54 rfl ?_
        refine hz_ne rfl rfl (fun h33 => ?_) (fun h33 => absurd (show (true = false) from (show _ = true from rfl).symm.trans h33) (by decide))
        exact h_r rfl ⟨rfl, Or.inr ⟨hpb, _, _, _, by rw [hpi]; exact T⟩, F⟩
    · obtain ⟨j, s2, vl2, rfl, rfl, hj120, T, F, hE⟩ := hJ
      exact absurd hj120 (by omega)
  · have T1 := T
    obtain ⟨a54, a55, a60, hl, h0, hn, tl, htn⟩ := id T
    refine h_n (st2 := []) rfl ?_
    refine h_s rfl ?_
    refine h_gf rfl rfl rfl a54 rfl ?_
    refine h_s rfl ?_
    refine h_k (y := 1) rfl rfl ?_
    refine h_s rfl ?_
    rw [show rdNames tp tn 5 (i + 1) s n = ⟨false, i + 1, s, n⟩ from if_neg (by rw [k38]; decide)]
    iterate 3 refine h_s rfl ?_
    refine h_gf rfl rfl rfl a54 rfl ?_
    refine hz_ne rfl rfl (fun h33 => ?_) (fun h33 => absurd (show (true = false) from (show _ = true from rfl).symm.trans h33) (by decide))
    exact h_r rfl ⟨rfl, Or.inr ⟨Or.inl rfl, _, _, _, T⟩, F⟩
set_option maxRecDepth 100000 in
set_option maxHeartbeats 4000000 in
theorem m_bedItem (T : MTk w s n kp tp tn i vl false)  : ab_Q X kX6_bedItem [.ref 54] w (MI w kp tp tn (if tkI tp tn i = 15 then rdBed tp tn (i + 1) s n else ⟨false, i, s, n⟩)) := by
  have F : ∀ j, j ≠ 54 → j ≠ 55 → w[j]? = w[j]? := fun _ _ _ => rfl
  have T1 := T
  obtain ⟨a54, a55, a60, hl, h0, hn, tl, htn⟩ := id T
  show ab_H X kX6_bedItem 0 [some (.ref 54), none] [] w _
  iterate 2 refine h_s rfl ?_
  refine h_cv rfl rfl rfl a54 rfl rfl (m_word T1) ?_
  refine h_n (st2 := [_, _]) rfl ?_
  iterate 2 refine h_s rfl ?_
  refine h1_ne rfl rfl (fun h9 => ?_) (fun h9 => ?_)
  · have k9 := wd_n (tp := tp) (tn := tn) (j := 15) (by decide) h9
    refine h_k (y := 0) rfl rfl ?_
    refine hq_v rfl rfl rfl a54 rfl rfl (m_wants T1 false) (fun v41 w41 q41 => ?_)
    obtain ⟨rfl, T, g41⟩ := q41
    replace T := (T.resolve_left (fun q => by cases q.1)).2
    have F := fun j h1 h2 => (g41 j h1).trans (F j h1 h2)
    have T1 := T
    obtain ⟨a54, a55, a60, hl, h0, hn, tl, htn⟩ := id T
    refine h_n (st2 := []) rfl ?_
    refine h_s rfl ?_
    refine h_k (y := 0) rfl rfl ?_
    refine h_s rfl ?_
    refine h_gf rfl rfl rfl a54 rfl ?_
    refine h_k (y := 0) rfl rfl ?_
    refine h_ia (0) rfl a55 (by omega) rfl (by omega) ?_
    refine h_t h0 ?_
    refine h_k (y := 1) rfl rfl ?_
    refine h_s rfl ?_
    refine hq_v rfl rfl rfl a54 rfl rfl (m_numberW T1 _ _) (fun v42 w42 q42 => ?_)
    obtain ⟨rfl, rfl⟩ := q42
    refine h_n (st2 := []) rfl ?_
    refine h_s rfl ?_
    refine h_gf rfl rfl rfl a54 rfl ?_
    iterate 3 refine h_s rfl ?_
    refine h_cv rfl rfl rfl a54 rfl rfl (m_word T1) ?_
    refine h_n (st2 := [_, _]) rfl ?_
    iterate 2 refine h_s rfl ?_
    refine h1_ne rfl rfl (fun h47 => ?_) (fun h47 => absurd h47 (wd_w (j := 16) (by decide)))
    refine h_k (y := 0) rfl rfl ?_
    refine hq_v rfl rfl rfl a54 rfl rfl (m_wantsW T1 0) (fun v43 w43 q43 => ?_)
    obtain ⟨rfl, T, g43⟩ := q43
    have F := fun j h1 h2 => (g43 j h1).trans (F j h1 h2)
    have T1 := T
    obtain ⟨a54, a55, a60, hl, h0, hn, tl, htn⟩ := id T
    refine h_n (st2 := []) rfl ?_
    refine h_s rfl ?_
    refine h_k (y := 0) rfl rfl ?_
    refine h_s rfl ?_
    refine h_gf rfl rfl rfl a54 rfl ?_
    refine h_k (y := 0) rfl rfl ?_
    refine h_ia (0) rfl a55 (by omega) rfl (by omega) ?_
    refine h_t h0 ?_
    refine h_k (y := 1) rfl rfl ?_
    refine h_s rfl ?_
    refine hq_v rfl rfl rfl a54 rfl rfl (m_numberW T1 _ _) (fun v44 w44 q44 => ?_)
    obtain ⟨rfl, rfl⟩ := q44
    refine h_n (st2 := []) rfl ?_
    refine h_s rfl ?_
    refine h_gf rfl rfl rfl a54 rfl ?_
    refine hz_ne rfl rfl (fun h75 => ?_) (fun h75 => absurd (show (true = false) from (show _ = true from rfl).symm.trans h75) (by decide))
    rw [show (if tkI tp tn i = 15 then rdBed tp tn (i + 1) s n else ⟨false, i, s, n⟩) = ⟨false, i, s, n⟩ from if_neg k9]
    exact h_r rfl ⟨rfl, Or.inr ⟨Or.inl rfl, _, _, _, T⟩, F⟩
  · have k9 := wd_y (tp := tp) (tn := tn) (j := 15) (by decide) h9
    refine h_k (y := 1) rfl rfl ?_
    refine h_s rfl ?_
    refine hq_v rfl rfl rfl a54 rfl rfl (m_wants T1 true) (fun v45 w45 q45 => ?_)
    obtain ⟨rfl, T, g45⟩ := q45
    replace T := (T.resolve_right (fun q => by cases q.1)).2
    have F := fun j h1 h2 => (g45 j h1).trans (F j h1 h2)
    have T1 := T
    obtain ⟨a54, a55, a60, hl, h0, hn, tl, htn⟩ := id T
    refine h_n (st2 := []) rfl ?_
    refine h_s rfl ?_
    refine h_k (y := 0) rfl rfl ?_
    refine h_s rfl ?_
    refine h_gf rfl rfl rfl a54 rfl ?_
    refine h_k (y := 0) rfl rfl ?_
    refine h_ia (0) rfl a55 (by omega) rfl (by omega) ?_
    refine h_t h0 ?_
    refine h_k (y := 1) rfl rfl ?_
    refine h_s rfl ?_
    refine hq_v rfl rfl rfl a54 rfl rfl (m_number T1 (b := n) (by omega) (nsub1 hn)) (fun v46 w46 q46 => ?_)
    obtain ⟨rfl, T, g46⟩ := q46
    have F := fun j h1 h2 => (g46 j h1).trans (F j h1 h2)
    rcases T with ⟨k46, T⟩ | ⟨k46, vl1, T⟩
    · have T1 := T
      obtain ⟨a54, a55, a60, hl, h0, hn, tl, htn⟩ := id T
      refine h_n (st2 := []) rfl ?_
      refine h_s rfl ?_
      refine h_gf rfl rfl rfl a54 rfl ?_
      iterate 3 refine h_s rfl ?_
      refine h_cv rfl rfl rfl a54 rfl rfl (m_word T1) ?_
      refine h_n (st2 := [_, _]) rfl ?_
      iterate 2 refine h_s rfl ?_
      refine h1_ne rfl rfl (fun h47 => ?_) (fun h47 => ?_)
      · have k47 := wd_n (tp := tp) (tn := tn) (j := 16) (by decide) h47
        refine h_k (y := 0) rfl rfl ?_
        refine hq_v rfl rfl rfl a54 rfl rfl (m_wants T1 false) (fun v47 w47 q47 => ?_)
        obtain ⟨rfl, T, g47⟩ := q47
        replace T := (T.resolve_left (fun q => by cases q.1)).2
        have F := fun j h1 h2 => (g47 j h1).trans (F j h1 h2)
        have T1 := T
        obtain ⟨a54, a55, a60, hl, h0, hn, tl, htn⟩ := id T
        refine h_n (st2 := []) rfl ?_
        refine h_s rfl ?_
        refine h_k (y := 0) rfl rfl ?_
        refine h_s rfl ?_
        refine h_gf rfl rfl rfl a54 rfl ?_
        refine h_k (y := 0) rfl rfl ?_
        refine h_ia (0) rfl a55 (by omega) rfl (by omega) ?_
        refine h_t h0 ?_
        refine h_k (y := 1) rfl rfl ?_
        refine h_s rfl ?_
        refine hq_v rfl rfl rfl a54 rfl rfl (m_numberW T1 _ _) (fun v48 w48 q48 => ?_)
        obtain ⟨rfl, rfl⟩ := q48
        refine h_n (st2 := []) rfl ?_
        refine h_s rfl ?_
        refine h_gf rfl rfl rfl a54 rfl ?_
        refine hz_ne rfl rfl (fun h75 => ?_) (fun h75 => absurd (show (true = false) from (show _ = true from rfl).symm.trans h75) (by decide))
        have ep := show rdBed tp tn (i + 1) s n = _ from by
          unfold rdBed
          rw [if_pos (show tkN tp tn (i + 1) n = true from k46), if_neg (show ¬ tkW tp tn (i + 1 + 1) 16 = true from fun q => k47 (of_decide_eq_true q))]
        rw [if_pos k9, ep]
        exact h_r rfl ⟨rfl, Or.inr ⟨Or.inl rfl, _, _, _, T⟩, F⟩
      · have k47 := wd_y (tp := tp) (tn := tn) (j := 16) (by decide) h47
        refine h_k (y := 1) rfl rfl ?_
        refine h_s rfl ?_
        refine hq_v rfl rfl rfl a54 rfl rfl (m_wants T1 true) (fun v49 w49 q49 => ?_)
        obtain ⟨rfl, T, g49⟩ := q49
        replace T := (T.resolve_right (fun q => by cases q.1)).2
        have F := fun j h1 h2 => (g49 j h1).trans (F j h1 h2)
        have T1 := T
        obtain ⟨a54, a55, a60, hl, h0, hn, tl, htn⟩ := id T
        refine h_n (st2 := []) rfl ?_
        refine h_s rfl ?_
        refine h_k (y := 0) rfl rfl ?_
        refine h_s rfl ?_
        refine h_gf rfl rfl rfl a54 rfl ?_
        refine h_k (y := 0) rfl rfl ?_
        refine h_ia (0) rfl a55 (by omega) rfl (by omega) ?_
        refine h_t h0 ?_
        refine h_k (y := 1) rfl rfl ?_
        refine h_s rfl ?_
        refine hq_v rfl rfl rfl a54 rfl rfl (m_number T1 (b := n) (by omega) (nsub1 hn)) (fun v50 w50 q50 => ?_)
        obtain ⟨rfl, T, g50⟩ := q50
        have F := fun j h1 h2 => (g50 j h1).trans (F j h1 h2)
        rcases T with ⟨k50, T⟩ | ⟨k50, vl1, T⟩
        · have T1 := T
          obtain ⟨a54, a55, a60, hl, h0, hn, tl, htn⟩ := id T
          refine h_n (st2 := []) rfl ?_
          refine h_s rfl ?_
          refine h_gf rfl rfl rfl a54 rfl ?_
          refine hz_ne rfl rfl (fun h75 => absurd (show (true = false) from h75.symm.trans (show _ = false from rfl)) (by decide)) (fun h75 => ?_)
          refine h_s rfl ?_
          refine h_gf rfl rfl rfl a54 rfl ?_
          refine h_s rfl ?_
          refine h_k (y := 7) rfl rfl ?_
          have hh8 := (tkN_ts k46).2
          refine h_c rfl (m_at (tnV tp tn (i + 1)) 7 rfl rfl) ?_
          refine h_n (st2 := [_, _]) rfl ?_
          refine h_s rfl ?_
          refine h_gf rfl rfl rfl a54 rfl ?_
          refine h_is (2 + 8 * tnV tp tn (i + 1) + 7) rfl a55 (by omega) rfl (by omega) (fun w40 e40 f40 => ?_)
          replace T := MT.fr55 T e40 (by rw [List.length_set]; exact hl) (by rw [gD_ne (by omega)]; exact h0) hn f40
          have F := fun j h1 h2 => (f40 j h2).trans (F j h1 h2)
          have T : MTk _ _ _ _ _ _ _ _ _ := T
          have T1 := T
          obtain ⟨a54, a55, a60, hl, h0, hn, tl, htn⟩ := id T
          have ep := show rdBed tp tn (i + 1) s n = _ from by
            unfold rdBed
            rw [if_pos (show tkN tp tn (i + 1) n = true from k46), if_pos (show tkW tp tn (i + 1 + 1) 16 = true from decide_eq_true k47), if_pos (show tkN tp tn (i + 1 + 2) n = true from k50)]
          rw [if_pos k9, ep]
          exact h_r rfl ⟨rfl, Or.inl ⟨rfl, _, T⟩, F⟩
        · have T1 := T
          obtain ⟨a54, a55, a60, hl, h0, hn, tl, htn⟩ := id T
          refine h_n (st2 := []) rfl ?_
          refine h_s rfl ?_
          refine h_gf rfl rfl rfl a54 rfl ?_
          refine hz_ne rfl rfl (fun h75 => ?_) (fun h75 => absurd (show (true = false) from (show _ = true from rfl).symm.trans h75) (by decide))
          have ep := show rdBed tp tn (i + 1) s n = _ from by
            unfold rdBed
            rw [if_pos (show tkN tp tn (i + 1) n = true from k46), if_pos (show tkW tp tn (i + 1 + 1) 16 = true from decide_eq_true k47), if_neg (show ¬ tkN tp tn (i + 1 + 2) n = true from by rw [show tkN tp tn (i + 1 + 2) n = false from k50]; decide)]
          rw [if_pos k9, ep]
          exact h_r rfl ⟨rfl, Or.inr ⟨Or.inl rfl, _, _, _, T⟩, F⟩
    · have T1 := T
      obtain ⟨a54, a55, a60, hl, h0, hn, tl, htn⟩ := id T
      refine h_n (st2 := []) rfl ?_
      refine h_s rfl ?_
      refine h_gf rfl rfl rfl a54 rfl ?_
      iterate 3 refine h_s rfl ?_
      refine h_cv rfl rfl rfl a54 rfl rfl (m_word T1) ?_
      refine h_n (st2 := [_, _]) rfl ?_
      iterate 2 refine h_s rfl ?_
      refine h1_ne rfl rfl (fun h47 => ?_) (fun h47 => absurd h47 (wd_w (j := 16) (by decide)))
      refine h_k (y := 0) rfl rfl ?_
      refine hq_v rfl rfl rfl a54 rfl rfl (m_wantsW T1 0) (fun v51 w51 q51 => ?_)
      obtain ⟨rfl, T, g51⟩ := q51
      have F := fun j h1 h2 => (g51 j h1).trans (F j h1 h2)
      have T1 := T
      obtain ⟨a54, a55, a60, hl, h0, hn, tl, htn⟩ := id T
      refine h_n (st2 := []) rfl ?_
      refine h_s rfl ?_
      refine h_k (y := 0) rfl rfl ?_
      refine h_s rfl ?_
      refine h_gf rfl rfl rfl a54 rfl ?_
      refine h_k (y := 0) rfl rfl ?_
      refine h_ia (0) rfl a55 (by omega) rfl (by omega) ?_
      refine h_t h0 ?_
      refine h_k (y := 1) rfl rfl ?_
      refine h_s rfl ?_
      refine hq_v rfl rfl rfl a54 rfl rfl (m_numberW T1 _ _) (fun v52 w52 q52 => ?_)
      obtain ⟨rfl, rfl⟩ := q52
      refine h_n (st2 := []) rfl ?_
      refine h_s rfl ?_
      refine h_gf rfl rfl rfl a54 rfl ?_
      refine hz_ne rfl rfl (fun h75 => ?_) (fun h75 => absurd (show (true = false) from (show _ = true from rfl).symm.trans h75) (by decide))
      have ep := show rdBed tp tn (i + 1) s n = _ from by
        unfold rdBed
        rw [if_neg (show ¬ tkN tp tn (i + 1) n = true from by rw [show tkN tp tn (i + 1) n = false from k46]; decide)]
      rw [if_pos k9, ep]
      exact h_r rfl ⟨rfl, Or.inr ⟨Or.inl rfl, _, _, _, T⟩, F⟩
set_option maxRecDepth 100000 in
set_option maxHeartbeats 4000000 in
theorem m_bedItemW (T : MTk w s n kp tp tn i vl true)  : ab_Q X kX6_bedItem [.ref 54] w (MJ w kp tp tn i) := by
  have F : ∀ j, j ≠ 54 → j ≠ 55 → w[j]? = w[j]? := fun _ _ _ => rfl
  have T1 := T
  obtain ⟨a54, a55, a60, hl, h0, hn, tl, htn⟩ := id T
  show ab_H X kX6_bedItem 0 [some (.ref 54), none] [] w _
  iterate 2 refine h_s rfl ?_
  refine h_cv rfl rfl rfl a54 rfl rfl (m_word T1) ?_
  refine h_n (st2 := [_, _]) rfl ?_
  iterate 2 refine h_s rfl ?_
  refine h1_ne rfl rfl (fun h9 => ?_) (fun h9 => absurd h9 (wd_w (j := 15) (by decide)))
  refine h_k (y := 0) rfl rfl ?_
  refine hq_v rfl rfl rfl a54 rfl rfl (m_wantsW T1 0) (fun v53 w53 q53 => ?_)
  obtain ⟨rfl, T, g53⟩ := q53
  have F := fun j h1 h2 => (g53 j h1).trans (F j h1 h2)
  have T1 := T
  obtain ⟨a54, a55, a60, hl, h0, hn, tl, htn⟩ := id T
  refine h_n (st2 := []) rfl ?_
  refine h_s rfl ?_
  refine h_k (y := 0) rfl rfl ?_
  refine h_s rfl ?_
  refine h_gf rfl rfl rfl a54 rfl ?_
  refine h_k (y := 0) rfl rfl ?_
  refine h_ia (0) rfl a55 (by omega) rfl (by omega) ?_
  refine h_t h0 ?_
  refine h_k (y := 1) rfl rfl ?_
  refine h_s rfl ?_
  refine hq_v rfl rfl rfl a54 rfl rfl (m_numberW T1 _ _) (fun v54 w54 q54 => ?_)
  obtain ⟨rfl, rfl⟩ := q54
  refine h_n (st2 := []) rfl ?_
  refine h_s rfl ?_
  refine h_gf rfl rfl rfl a54 rfl ?_
  iterate 3 refine h_s rfl ?_
  refine h_cv rfl rfl rfl a54 rfl rfl (m_word T1) ?_
  refine h_n (st2 := [_, _]) rfl ?_
  iterate 2 refine h_s rfl ?_
  refine h1_ne rfl rfl (fun h47 => ?_) (fun h47 => absurd h47 (wd_w (j := 16) (by decide)))
  refine h_k (y := 0) rfl rfl ?_
  refine hq_v rfl rfl rfl a54 rfl rfl (m_wantsW T1 0) (fun v55 w55 q55 => ?_)
  obtain ⟨rfl, T, g55⟩ := q55
  have F := fun j h1 h2 => (g55 j h1).trans (F j h1 h2)
  have T1 := T
  obtain ⟨a54, a55, a60, hl, h0, hn, tl, htn⟩ := id T
  refine h_n (st2 := []) rfl ?_
  refine h_s rfl ?_
  refine h_k (y := 0) rfl rfl ?_
  refine h_s rfl ?_
  refine h_gf rfl rfl rfl a54 rfl ?_
  refine h_k (y := 0) rfl rfl ?_
  refine h_ia (0) rfl a55 (by omega) rfl (by omega) ?_
  refine h_t h0 ?_
  refine h_k (y := 1) rfl rfl ?_
  refine h_s rfl ?_
  refine hq_v rfl rfl rfl a54 rfl rfl (m_numberW T1 _ _) (fun v56 w56 q56 => ?_)
  obtain ⟨rfl, rfl⟩ := q56
  refine h_n (st2 := []) rfl ?_
  refine h_s rfl ?_
  refine h_gf rfl rfl rfl a54 rfl ?_
  refine hz_ne rfl rfl (fun h75 => ?_) (fun h75 => absurd (show (true = false) from (show _ = true from rfl).symm.trans h75) (by decide))
  exact h_r rfl ⟨rfl, ⟨_, _, _, T⟩, F⟩
set_option maxRecDepth 100000 in
set_option maxHeartbeats 4000000 in
theorem m_item (T : MTk w s n kp tp tn i vl false)  : ab_Q X kX6_item [.ref 54] w (MI w kp tp tn (rdItem tp tn i s n)) := by
  have F : ∀ j, j ≠ 54 → j ≠ 55 → w[j]? = w[j]? := fun _ _ _ => rfl
  have T1 := T
  obtain ⟨a54, a55, a60, hl, h0, hn, tl, htn⟩ := id T
  show ab_H X kX6_item 0 [some (.ref 54), none] [] w _
  by_cases hK7 : tkI tp tn i < 7
  · refine h_s rfl ?_
    refine h_cv rfl rfl rfl a54 rfl rfl (m_kindHere T1) ?_
    refine h_t (y := nI (tkI tp tn i)) (if_pos hK7) ?_
    refine h_n (st2 := [_]) rfl ?_
    iterate 2 refine h_s rfl ?_
    refine hM_lt rfl rfl rfl rfl (by omega) (fun h6 => absurd h6 (by omega)) (fun h6 => ?_)
    iterate 2 refine h_s rfl ?_
    refine hq_v rfl rfl rfl a54 rfl rfl (m_houseItem T1 rfl hK7) (fun v57 w57 q57 => ?_)
    obtain ⟨rfl, r57⟩ := q57
    refine h_n (st2 := []) rfl ?_
    refine h_s rfl ?_
    rw [show rdItem tp tn i s n = rdHouse tp tn (tkI tp tn i) i s n from if_pos hK7]
    exact h_r rfl ⟨rfl, r57⟩
  · refine h_s rfl ?_
    refine h_cv rfl rfl rfl a54 rfl rfl (m_kindHere T1) ?_
    refine h_t (y := -1) (if_neg hK7) ?_
    refine h_n (st2 := [_]) rfl ?_
    iterate 4 refine h_s rfl ?_
    refine h_cv rfl rfl rfl a54 rfl rfl (m_word T1) ?_
    refine h_n (st2 := [_]) rfl ?_
    iterate 2 refine h_s rfl ?_
    refine h1_ne rfl rfl (fun h25 => ?_) (fun h25 => ?_)
    · have k25 := wd_n (tp := tp) (tn := tn) (j := 12) (by decide) h25
      refine h_s rfl ?_
      refine h_cv rfl rfl rfl a54 rfl rfl (m_word T1) ?_
      refine h_n (st2 := [_]) rfl ?_
      iterate 2 refine h_s rfl ?_
      refine h1_ne rfl rfl (fun h44 => ?_) (fun h44 => ?_)
      · have k44 := wd_n (tp := tp) (tn := tn) (j := 13) (by decide) h44
        refine h_s rfl ?_
        refine h_cv rfl rfl rfl a54 rfl rfl (m_word T1) ?_
        refine h_n (st2 := [_]) rfl ?_
        iterate 2 refine h_s rfl ?_
        refine h1_ne rfl rfl (fun h63 => ?_) (fun h63 => ?_)
        · have k63 := wd_n (tp := tp) (tn := tn) (j := 14) (by decide) h63
          refine h_s rfl ?_
          refine hq_v rfl rfl rfl a54 rfl rfl (m_bedItem T1) (fun v58 w58 q58 => ?_)
          obtain ⟨rfl, r58⟩ := q58
          refine h_n (st2 := []) rfl ?_
          rw [show rdItem tp tn i s n = if tkI tp tn i = 15 then rdBed tp tn (i + 1) s n else ⟨false, i, s, n⟩ from by unfold rdItem; rw [if_neg hK7, if_neg k25, if_neg k44, if_neg k63]]
          exact h_r rfl ⟨rfl, r58⟩
        · have k63 := wd_y (tp := tp) (tn := tn) (j := 14) (by decide) h63
          refine h_s rfl ?_
          refine h_k (y := 1) rfl rfl ?_
          refine hq_v rfl rfl rfl a54 rfl rfl (m_wants T1 true) (fun v59 w59 q59 => ?_)
          obtain ⟨rfl, T, g59⟩ := q59
          replace T := (T.resolve_right (fun q => by cases q.1)).2
          have F := fun j h1 h2 => (g59 j h1).trans (F j h1 h2)
          have T1 := T
          obtain ⟨a54, a55, a60, hl, h0, hn, tl, htn⟩ := id T
          refine h_n (st2 := []) rfl ?_
          refine h_s rfl ?_
          refine h_k (y := 0) rfl rfl ?_
          refine h_k (y := 13) rfl rfl ?_
          refine hq_v rfl rfl rfl a54 rfl rfl (m_number T1 (b := 14) (by omega) (by decide)) (fun v60 w60 q60 => ?_)
          obtain ⟨rfl, T, g60⟩ := q60
          have F := fun j h1 h2 => (g60 j h1).trans (F j h1 h2)
          rcases T with ⟨k60, T⟩ | ⟨k60, vl1, T⟩
          · have T1 := T
            obtain ⟨a54, a55, a60, hl, h0, hn, tl, htn⟩ := id T
            refine h_n (st2 := []) rfl ?_
            refine h_s rfl ?_
            refine h_gf rfl rfl rfl a54 rfl ?_
            refine hz_ne rfl rfl (fun h82 => absurd (show (true = false) from h82.symm.trans (show _ = false from rfl)) (by decide)) (fun h82 => ?_)
            refine h_s rfl ?_
            refine h_gf rfl rfl rfl a54 rfl ?_
            refine h_k (y := 66) rfl rfl ?_
            refine h_s rfl ?_
            refine h_gf rfl rfl rfl a54 rfl ?_
            refine h_Nadd (a := 66) (b := tnV tp tn (i + 1)) rfl rfl rfl ?_
            refine h_k (y := 1) rfl rfl ?_
            have hh8 := (tkN_ts k60).2
            refine h_is (66 + tnV tp tn (i + 1)) rfl a55 (by omega) rfl (by omega) (fun w61 e61 f61 => ?_)
            replace T := MT.fr55 T e61 (by rw [List.length_set]; exact hl) (by rw [gD_ne (by omega)]; exact h0) hn f61
            have F := fun j h1 h2 => (f61 j h2).trans (F j h1 h2)
            have T : MTk _ _ _ _ _ _ _ _ _ := T
            have T1 := T
            obtain ⟨a54, a55, a60, hl, h0, hn, tl, htn⟩ := id T
            refine h_s rfl ?_
            rw [show rdItem tp tn i s n = rdDoor tp tn (i + 1) s n from by unfold rdItem; rw [if_neg hK7, if_neg k25, if_neg k44, if_pos k63]]
            rw [show rdDoor tp tn (i + 1) s n = ⟨true, i + 1 + 1, s.set (66 + tnV tp tn (i + 1)) (z01 true), n⟩ from if_pos k60]
            exact h_r rfl ⟨rfl, Or.inl ⟨rfl, _, T⟩, F⟩
          · have T1 := T
            obtain ⟨a54, a55, a60, hl, h0, hn, tl, htn⟩ := id T
            refine h_n (st2 := []) rfl ?_
            refine h_s rfl ?_
            refine h_gf rfl rfl rfl a54 rfl ?_
            refine hz_ne rfl rfl (fun h82 => ?_) (fun h82 => absurd (show (true = false) from (show _ = true from rfl).symm.trans h82) (by decide))
            rw [show rdItem tp tn i s n = rdDoor tp tn (i + 1) s n from by unfold rdItem; rw [if_neg hK7, if_neg k25, if_neg k44, if_pos k63]]
            rw [show rdDoor tp tn (i + 1) s n = ⟨false, i + 1, s, n⟩ from if_neg (by rw [k60]; decide)]
            exact h_r rfl ⟨rfl, Or.inr ⟨Or.inl rfl, _, _, _, T⟩, F⟩
      · have k44 := wd_y (tp := tp) (tn := tn) (j := 13) (by decide) h44
        refine h_s rfl ?_
        refine h_k (y := 5) rfl rfl ?_
        refine hq_v rfl rfl rfl a54 rfl rfl (m_namesItem_5 T1) (fun v62 w62 q62 => ?_)
        obtain ⟨rfl, r62⟩ := q62
        refine h_n (st2 := []) rfl ?_
        refine h_s rfl ?_
        rw [show rdItem tp tn i s n = rdNames tp tn 5 (i + 1) s n from by unfold rdItem; rw [if_neg hK7, if_neg k25, if_pos k44]]
        exact h_r rfl ⟨rfl, r62⟩
    · have k25 := wd_y (tp := tp) (tn := tn) (j := 12) (by decide) h25
      refine h_s rfl ?_
      refine h_k (y := 2) rfl rfl ?_
      refine hq_v rfl rfl rfl a54 rfl rfl (m_namesItem_2 T1) (fun v63 w63 q63 => ?_)
      obtain ⟨rfl, r63⟩ := q63
      refine h_n (st2 := []) rfl ?_
      refine h_s rfl ?_
      rw [show rdItem tp tn i s n = rdNames tp tn 2 (i + 1) s n from by unfold rdItem; rw [if_neg hK7, if_pos k25]]
      exact h_r rfl ⟨rfl, r63⟩
set_option maxRecDepth 100000 in
set_option maxHeartbeats 4000000 in
theorem m_itemW (T : MTk w s n kp tp tn i vl true)  : ab_Q X kX6_item [.ref 54] w (MJ w kp tp tn i) := by
  have F : ∀ j, j ≠ 54 → j ≠ 55 → w[j]? = w[j]? := fun _ _ _ => rfl
  have T1 := T
  obtain ⟨a54, a55, a60, hl, h0, hn, tl, htn⟩ := id T
  show ab_H X kX6_item 0 [some (.ref 54), none] [] w _
  refine h_s rfl ?_
  refine h_cv rfl rfl rfl a54 rfl rfl (m_kindHereW T1) ?_
  refine h_n (st2 := [_]) rfl ?_
  iterate 4 refine h_s rfl ?_
  refine h_cv rfl rfl rfl a54 rfl rfl (m_word T1) ?_
  refine h_n (st2 := [_]) rfl ?_
  iterate 2 refine h_s rfl ?_
  refine h1_ne rfl rfl (fun h25 => ?_) (fun h25 => absurd h25 (wd_w (j := 12) (by decide)))
  refine h_s rfl ?_
  refine h_cv rfl rfl rfl a54 rfl rfl (m_word T1) ?_
  refine h_n (st2 := [_]) rfl ?_
  iterate 2 refine h_s rfl ?_
  refine h1_ne rfl rfl (fun h44 => ?_) (fun h44 => absurd h44 (wd_w (j := 13) (by decide)))
  refine h_s rfl ?_
  refine h_cv rfl rfl rfl a54 rfl rfl (m_word T1) ?_
  refine h_n (st2 := [_]) rfl ?_
  iterate 2 refine h_s rfl ?_
  refine h1_ne rfl rfl (fun h63 => ?_) (fun h63 => absurd h63 (wd_w (j := 14) (by decide)))
  refine h_s rfl ?_
  refine hq_v rfl rfl rfl a54 rfl rfl (m_bedItemW T1) (fun v64 w64 q64 => ?_)
  obtain ⟨rfl, r64⟩ := q64
  refine h_n (st2 := []) rfl ?_
  exact h_r rfl ⟨rfl, r64⟩
end MJ
