/-! TEXT: the reference's items: names, bed, door; all of them -/
section MJ
variable {X : List Int32} {w w1 : ab_W} {s : List Int32} {n : Nat} {kp : Bool} {tp : List Int32} {tn a e i : Nat} {fr to vl : Int32} {wr : Bool}
theorem tP_stay {m : Nat} (h : tP tp tn m = tn) : ∀ d, tP tp tn (m + d) = tn
  | 0 => h
  | d + 1 => tP_end (tP_stay h d)
theorem tP_120 (htn : tn ≤ 120) (h : tP tp tn i < tn) : i < 120 := by
  obtain ⟨m, h1, h2, h3⟩ := tp_end (tp := tp) htn
  rcases Nat.lt_or_ge i m with q | q
  · omega
  · have := tP_stay h2 (i - m)
    rw [show m + (i - m) = i by omega] at this
    omega
theorem ts_120 (htn : tn ≤ 120) (h : ¬ tsN tp tn (tP tp tn i) = 0) : i < 120 := tP_120 (tp := tp) (i := i) htn (by rw [ts_0] at h; omega)
theorem tkN_120 {b : Nat} (htn : tn ≤ 120) (h : tkN tp tn i b = true) : i < 120 := ts_120 htn (by rw [(tkN_ts h).1]; decide)
theorem mk_or (s : List Int32) (h fi f : Nat) : s.getD (2 + 8 * h + fi) 0 ||| ((1 : Int32) <<< (nI f &&& 31)) = markI (fld s h fi) f true := rfl
set_option maxRecDepth 100000 in
set_option maxHeartbeats 4000000 in
theorem m_namesItem_2 (T : MTk w s n kp tp tn i vl false)  : ab_Q X kX6_namesItem [.ref 54, .int 2] w (MI w kp tp tn (rdNames tp tn 2 (i + 1) s n)) := by
  have F : ∀ j, j ≠ 54 → j ≠ 55 → w[j]? = w[j]? := fun _ _ _ => rfl
  have T1 := T
  obtain ⟨a54, a55, a60, hl, h0, hn, tl, htn⟩ := id T
  show ab_H X kX6_namesItem 0 [some (.ref 54), some (.int 2), none, none] [] w _
  refine h_s rfl ?_
  refine h_k (y := 1) rfl rfl ?_
  refine hq_v rfl rfl rfl a54 rfl rfl (m_wants T1 true) (fun v35 w35 q35 => ?_)
  obtain ⟨rfl, T, g35⟩ := q35
  replace T := (T.resolve_right (fun q => by cases q.1)).2
  have F := fun j h1 h2 => (g35 j h1).trans (F j h1 h2)
  have T1 := T
  obtain ⟨a54, a55, a60, hl, h0, hn, tl, htn⟩ := id T
  refine h_n (st2 := []) rfl ?_
  refine h_s rfl ?_
  refine h_k (y := 0) rfl rfl ?_
  refine h_s rfl ?_
  refine h_gf rfl rfl rfl a54 rfl ?_
  refine h_k (y := 0) rfl rfl ?_
  refine h_ia (0) rfl a55 (by omega) rfl (by omega) ?_
  refine h_t h0 ?_
  refine h_k (y := 1) rfl rfl ?_
  refine h_s rfl ?_
  refine hq_v rfl rfl rfl a54 rfl rfl (m_number T1 (b := n) (by omega) (nsub1 hn)) (fun v34 w34 q34 => ?_)
  obtain ⟨rfl, T, g34⟩ := q34
  have F := fun j h1 h2 => (g34 j h1).trans (F j h1 h2)
  rcases T with ⟨k34, T⟩ | ⟨k34, vl1, T⟩
  · have T1 := T
    obtain ⟨a54, a55, a60, hl, h0, hn, tl, htn⟩ := id T
    refine h_n (st2 := []) rfl ?_
    refine h_s rfl ?_
    refine h_gf rfl rfl rfl a54 rfl ?_
    refine h_s rfl ?_
    refine h_k (y := 1) rfl rfl ?_
    refine h_s rfl ?_
    have hh8 := (tkN_ts k34).2
    have hl120 := tkN_120 htn k34
    refine h_loop0 121 (fun k ls v => ∃ j s2 vl, ls = [some (.ref 54), some (.int 2), some (.int (nI (tnV tp tn (i + 1)))), some (.int (z01 true))] ∧ j = i + 2 + k ∧ j ≤ 120 ∧ MTk v s2 n kp tp tn j vl false ∧ (∀ q, q ≠ 54 → q ≠ 55 → v[q]? = w[q]?) ∧ (rdNames tp tn 2 (i + 1) s n = rdNamF tp tn 2 (tnV tp tn (i + 1)) (121 - k) j s2 n ∨ (tsN tp tn (tP tp tn j) = 4 ∧ rdNames tp tn 2 (i + 1) s n = ⟨true, j, s2, n⟩))) ⟨_, _, _, rfl, rfl, by omega, T, F, Or.inl (if_pos k34)⟩ (fun k ls v hk hJ ih => ?_) (fun ls v hJ => ?_)
    · obtain ⟨j, s2, vl2, rfl, rfl, hj120, T, F, hE⟩ := hJ
      obtain ⟨g, hg⟩ : ∃ g, 121 - k = g + 1 := ⟨120 - k, by omega⟩
      have T1 := T
      obtain ⟨a54, a55, a60, hl, h0, hn, tl, htn⟩ := id T
      refine h_s rfl ?_
      refine hz_eq rfl rfl (fun h26 => absurd (show (true = false) from (show _ = true from rfl).symm.trans h26) (by decide)) (fun h26 => ?_)
      refine h_s rfl ?_
      refine h_gf rfl rfl rfl a54 rfl ?_
      refine hz_ne rfl rfl (fun h33 => absurd (show (true = false) from h33.symm.trans (show _ = false from rfl)) (by decide)) (fun h33 => ?_)
      refine h_s rfl ?_
      refine h_k (y := 0) rfl rfl ?_
      refine h_k (y := 7) rfl rfl ?_
      refine hq_v rfl rfl rfl a54 rfl rfl (m_number T1 (b := 8) (by omega) (by decide)) (fun v32 w32 q32 => ?_)
      obtain ⟨rfl, T, g32⟩ := q32
      have F := fun j h1 h2 => (g32 j h1).trans (F j h1 h2)
      rcases T with ⟨k32, T⟩ | ⟨k32, vl1, T⟩
      · have T1 := T
        obtain ⟨a54, a55, a60, hl, h0, hn, tl, htn⟩ := id T
        refine h_n (st2 := []) rfl ?_
        refine h_s rfl ?_
        refine h_gf rfl rfl rfl a54 rfl ?_
        refine hz_ne rfl rfl (fun h47 => absurd (show (true = false) from h47.symm.trans (show _ = false from rfl)) (by decide)) (fun h47 => ?_)
        refine h_s rfl ?_
        refine h_gf rfl rfl rfl a54 rfl ?_
        iterate 2 refine h_s rfl ?_
        refine h_c rfl (m_at (tnV tp tn (i + 1)) 2 rfl rfl) ?_
        refine h_n (st2 := [_, _]) rfl ?_
        refine h_s rfl ?_
        refine h_ia _ rfl a55 (by omega) rfl (by omega) ?_
        refine h_k (y := 1) rfl rfl ?_
        refine h_s rfl ?_
        refine h_gf rfl rfl rfl a54 rfl ?_
        iterate 2 refine h_s rfl ?_
        refine h_is (2 + 8 * tnV tp tn (i + 1) + 2) rfl a55 (by omega) rfl (by omega) (fun w33 e33 f33 => ?_)
        replace T := MT.fr55 T e33 (by rw [List.length_set]; exact hl) (by rw [gD_ne (by omega)]; exact h0) hn f33
        have F := fun j h1 h2 => (f33 j h2).trans (F j h1 h2)
        have T : MTk _ _ _ _ _ _ _ _ _ := T
        have T1 := T
        obtain ⟨a54, a55, a60, hl, h0, hn, tl, htn⟩ := id T
        iterate 2 refine h_s rfl ?_
        refine h_gf rfl rfl rfl a54 rfl ?_
        refine h_cv rfl rfl rfl a54 rfl rfl (m_byteAt T1 (a := tP tp tn (i + 2 + k + 1)) (by have := tP_le (tp := tp) (tn := tn) (i + 2 + k + 1); omega)) ?_
        refine h_n (st2 := [_]) rfl ?_
        refine h_c rfl (m_isDigit _) ?_
        refine h_n (st2 := [_]) rfl ?_
        iterate 2 refine h_s rfl ?_
        rw [mk_or] at T
        have h2 : tsN tp tn (tP tp tn (i + 2 + k)) = 2 := (tkN_ts k32).1
        have hE1 : rdNames tp tn 2 (i + 1) s n = rdNamF tp tn 2 (tnV tp tn (i + 1)) (121 - k) (i + 2 + k) s2 n := by
          rcases hE with q | ⟨q, -⟩
          · exact q
          · rw [h2] at q; cases q
        rw [hg, rdNamF, if_pos k32] at hE1
        have hl120 := tkN_120 htn k32
        obtain ⟨bd, hbd⟩ : ∃ bd, dgB (byt tp tn (tP tp tn (i + 2 + k + 1))) = bd := ⟨_, rfl⟩
        rw [hbd]
        cases bd with
        | true =>
          refine ih _ _ ⟨_, _, _, rfl, rfl, by omega, T, F, ?_⟩
          by_cases q : tsN tp tn (tP tp tn (i + 2 + k + 1)) = 2
          · rw [if_pos q] at hE1
            rw [hE1, show 121 - (k + 1) = g by omega]
            exact Or.inl rfl
          · rw [if_neg q] at hE1
            refine Or.inr ⟨?_, hE1⟩
            rcases ts_dg.mp hbd with q2 | q2
            · exact absurd q2 q
            · exact q2.1
        | false =>
          rw [if_neg (fun q => by rw [ts_dg.mpr (Or.inl q)] at hbd; cases hbd)] at hE1
          rw [hE1]
          refine h_s rfl ?_
          refine hz_eq rfl rfl (fun h26 => ?_) (fun h26 => absurd (show (true = false) from h26.symm.trans (show _ = false from rfl)) (by decide))
          exact h_r rfl ⟨rfl, Or.inl ⟨rfl, _, T⟩, F⟩
      · have T1 := T
        obtain ⟨a54, a55, a60, hl, h0, hn, tl, htn⟩ := id T
        refine h_n (st2 := []) rfl ?_
        refine h_s rfl ?_
        refine h_gf rfl rfl rfl a54 rfl ?_
        refine hz_ne rfl rfl (fun h47 => ?_) (fun h47 => absurd (show (true = false) from (show _ = true from rfl).symm.trans h47) (by decide))
        have hbad : ∃ p, rdNames tp tn 2 (i + 1) s n = p ∧ p.i = i + 2 + k ∧ (p.ok = false ∨ tsN tp tn (tP tp tn p.i) = 4) := by
          rcases hE with q | ⟨q1, q2⟩
          · refine ⟨_, q, ?_⟩
            rw [hg, rdNamF, if_neg (by rw [k32]; decide)]
            exact ⟨rfl, Or.inl rfl⟩
          · exact ⟨_, q2, rfl, Or.inr q1⟩
        obtain ⟨p, hp, hpi, hpb⟩ := hbad
        rw [hp]
        refine h_s rfl ?_
        refine hz_eq rfl rfl (fun h26 => absurd (show (true = false) from (show _ = true from rfl).symm.trans h26) (by decide)) (fun h26 => ?_)
        refine h_s rfl ?_
        refine h_gf rfl rfl rfl a54 rfl ?_
        refine hz_ne rfl rfl (fun h33 => ?_) (fun h33 => absurd (show (true = false) from (show _ = true from rfl).symm.trans h33) (by decide))
        exact h_r rfl ⟨rfl, Or.inr ⟨hpb, _, _, _, by rw [hpi]; exact T⟩, F⟩
    · obtain ⟨j, s2, vl2, rfl, rfl, hj120, T, F, hE⟩ := hJ
      exact absurd hj120 (by omega)
  · have T1 := T
    obtain ⟨a54, a55, a60, hl, h0, hn, tl, htn⟩ := id T
    refine h_n (st2 := []) rfl ?_
    refine h_s rfl ?_
    refine h_gf rfl rfl rfl a54 rfl ?_
    refine h_s rfl ?_
    refine h_k (y := 1) rfl rfl ?_
    refine h_s rfl ?_
    rw [show rdNames tp tn 2 (i + 1) s n = ⟨false, i + 1, s, n⟩ from if_neg (by rw [k34]; decide)]
    iterate 3 refine h_s rfl ?_
    refine h_gf rfl rfl rfl a54 rfl ?_
    refine hz_ne rfl rfl (fun h33 => ?_) (fun h33 => absurd (show (true = false) from (show _ = true from rfl).symm.trans h33) (by decide))
    exact h_r rfl ⟨rfl, Or.inr ⟨Or.inl rfl, _, _, _, T⟩, F⟩
set_option maxRecDepth 100000 in
set_option maxHeartbeats 4000000 in
theorem m_namesItem_5 (T : MTk w s n kp tp tn i vl false)  : ab_Q X kX6_namesItem [.ref 54, .int 5] w (MI w kp tp tn (rdNames tp tn 5 (i + 1) s n)) := by
  have F : ∀ j, j ≠ 54 → j ≠ 55 → w[j]? = w[j]? := fun _ _ _ => rfl
  have T1 := T
  obtain ⟨a54, a55, a60, hl, h0, hn, tl, htn⟩ := id T
  show ab_H X kX6_namesItem 0 [some (.ref 54), some (.int 5), none, none] [] w _
  refine h_s rfl ?_
  refine h_k (y := 1) rfl rfl ?_
  refine hq_v rfl rfl rfl a54 rfl rfl (m_wants T1 true) (fun v39 w39 q39 => ?_)
  obtain ⟨rfl, T, g39⟩ := q39
  replace T := (T.resolve_right (fun q => by cases q.1)).2
  have F := fun j h1 h2 => (g39 j h1).trans (F j h1 h2)
  have T1 := T
  obtain ⟨a54, a55, a60, hl, h0, hn, tl, htn⟩ := id T
  refine h_n (st2 := []) rfl ?_
  refine h_s rfl ?_
  refine h_k (y := 0) rfl rfl ?_
  refine h_s rfl ?_
  refine h_gf rfl rfl rfl a54 rfl ?_
  refine h_k (y := 0) rfl rfl ?_
  refine h_ia (0) rfl a55 (by omega) rfl (by omega) ?_
  refine h_t h0 ?_
  refine h_k (y := 1) rfl rfl ?_
  refine h_s rfl ?_
  refine hq_v rfl rfl rfl a54 rfl rfl (m_number T1 (b := n) (by omega) (nsub1 hn)) (fun v38 w38 q38 => ?_)
  obtain ⟨rfl, T, g38⟩ := q38
  have F := fun j h1 h2 => (g38 j h1).trans (F j h1 h2)
  rcases T with ⟨k38, T⟩ | ⟨k38, vl1, T⟩
  · have T1 := T
    obtain ⟨a54, a55, a60, hl, h0, hn, tl, htn⟩ := id T
    refine h_n (st2 := []) rfl ?_
    refine h_s rfl ?_
    refine h_gf rfl rfl rfl a54 rfl ?_
    refine h_s rfl ?_
    refine h_k (y := 1) rfl rfl ?_
    refine h_s rfl ?_
    have hh8 := (tkN_ts k38).2
    have hl120 := tkN_120 htn k38
    refine h_loop0 121 (fun k ls v => ∃ j s2 vl, ls = [some (.ref 54), some (.int 5), some (.int (nI (tnV tp tn (i + 1)))), some (.int (z01 true))] ∧ j = i + 2 + k ∧ j ≤ 120 ∧ MTk v s2 n kp tp tn j vl false ∧ (∀ q, q ≠ 54 → q ≠ 55 → v[q]? = w[q]?) ∧ (rdNames tp tn 5 (i + 1) s n = rdNamF tp tn 5 (tnV tp tn (i + 1)) (121 - k) j s2 n ∨ (tsN tp tn (tP tp tn j) = 4 ∧ rdNames tp tn 5 (i + 1) s n = ⟨true, j, s2, n⟩))) ⟨_, _, _, rfl, rfl, by omega, T, F, Or.inl (if_pos k38)⟩ (fun k ls v hk hJ ih => ?_) (fun ls v hJ => ?_)
    · obtain ⟨j, s2, vl2, rfl, rfl, hj120, T, F, hE⟩ := hJ
      obtain ⟨g, hg⟩ : ∃ g, 121 - k = g + 1 := ⟨120 - k, by omega⟩
      have T1 := T
      obtain ⟨a54, a55, a60, hl, h0, hn, tl, htn⟩ := id T
      refine h_s rfl ?_
      refine hz_eq rfl rfl (fun h26 => absurd (show (true = false) from (show _ = true from rfl).symm.trans h26) (by decide)) (fun h26 => ?_)
      refine h_s rfl ?_
      refine h_gf rfl rfl rfl a54 rfl ?_
      refine hz_ne rfl rfl (fun h33 => absurd (show (true = false) from h33.symm.trans (show _ = false from rfl)) (by decide)) (fun h33 => ?_)
      refine h_s rfl ?_
      refine h_k (y := 0) rfl rfl ?_
      refine h_k (y := 7) rfl rfl ?_
      refine hq_v rfl rfl rfl a54 rfl rfl (m_number T1 (b := 8) (by omega) (by decide)) (fun v36 w36 q36 => ?_)
      obtain ⟨rfl, T, g36⟩ := q36
      have F := fun j h1 h2 => (g36 j h1).trans (F j h1 h2)
      rcases T with ⟨k36, T⟩ | ⟨k36, vl1, T⟩
      · have T1 := T
        obtain ⟨a54, a55, a60, hl, h0, hn, tl, htn⟩ := id T
        refine h_n (st2 := []) rfl ?_
        refine h_s rfl ?_
        refine h_gf rfl rfl rfl a54 rfl ?_
        refine hz_ne rfl rfl (fun h47 => absurd (show (true = false) from h47.symm.trans (show _ = false from rfl)) (by decide)) (fun h47 => ?_)
        refine h_s rfl ?_
        refine h_gf rfl rfl rfl a54 rfl ?_
        iterate 2 refine h_s rfl ?_
        refine h_c rfl (m_at (tnV tp tn (i + 1)) 5 rfl rfl) ?_
        refine h_n (st2 := [_, _]) rfl ?_
        refine h_s rfl ?_
        refine h_ia _ rfl a55 (by omega) rfl (by omega) ?_
        refine h_k (y := 1) rfl rfl ?_
        refine h_s rfl ?_
        refine h_gf rfl rfl rfl a54 rfl ?_
        iterate 2 refine h_s rfl ?_
        refine h_is (2 + 8 * tnV tp tn (i + 1) + 5) rfl a55 (by omega) rfl (by omega) (fun w37 e37 f37 => ?_)
        replace T := MT.fr55 T e37 (by rw [List.length_set]; exact hl) (by rw [gD_ne (by omega)]; exact h0) hn f37
        have F := fun j h1 h2 => (f37 j h2).trans (F j h1 h2)
        have T : MTk _ _ _ _ _ _ _ _ _ := T
        have T1 := T
        obtain ⟨a54, a55, a60, hl, h0, hn, tl, htn⟩ := id T
        iterate 2 refine h_s rfl ?_
        refine h_gf rfl rfl rfl a54 rfl ?_
        refine h_cv rfl rfl rfl a54 rfl rfl (m_byteAt T1 (a := tP tp tn (i + 2 + k + 1)) (by have := tP_le (tp := tp) (tn := tn) (i + 2 + k + 1); omega)) ?_
        refine h_n (st2 := [_]) rfl ?_
        refine h_c rfl (m_isDigit _) ?_
        refine h_n (st2 := [_]) rfl ?_
        iterate 2 refine h_s rfl ?_
        rw [mk_or] at T
        have h2 : tsN tp tn (tP tp tn (i + 2 + k)) = 2 := (tkN_ts k36).1
        have hE1 : rdNames tp tn 5 (i + 1) s n = rdNamF tp tn 5 (tnV tp tn (i + 1)) (121 - k) (i + 2 + k) s2 n := by
          rcases hE with q | ⟨q, -⟩
          · exact q
          · rw [h2] at q; cases q
        rw [hg, rdNamF, if_pos k36] at hE1
        have hl120 := tkN_120 htn k36
        obtain ⟨bd, hbd⟩ : ∃ bd, dgB (byt tp tn (tP tp tn (i + 2 + k + 1))) = bd := ⟨_, rfl⟩
        rw [hbd]
        cases bd with
        | true =>
          refine ih _ _ ⟨_, _, _, rfl, rfl, by omega, T, F, ?_⟩
          by_cases q : tsN tp tn (tP tp tn (i + 2 + k + 1)) = 2
          · rw [if_pos q] at hE1
            rw [hE1, show 121 - (k + 1) = g by omega]
            exact Or.inl rfl
          · rw [if_neg q] at hE1
            refine Or.inr ⟨?_, hE1⟩
            rcases ts_dg.mp hbd with q2 | q2
            · exact absurd q2 q
            · exact q2.1
        | false =>
          rw [if_neg (fun q => by rw [ts_dg.mpr (Or.inl q)] at hbd; cases hbd)] at hE1
          rw [hE1]
          refine h_s rfl ?_
          refine hz_eq rfl rfl (fun h26 => ?_) (fun h26 => absurd (show (true = false) from h26.symm.trans (show _ = false from rfl)) (by decide))
          exact h_r rfl ⟨rfl, Or.inl ⟨rfl, _, T⟩, F⟩
      · have T1 := T
        obtain ⟨a54, a55, a60, hl, h0, hn, tl, htn⟩ := id T
        refine h_n (st2 := []) rfl ?_
        refine h_s rfl ?_
        refine h_gf rfl rfl rfl a54 rfl ?_
        refine hz_ne rfl rfl (fun h47 => ?_) (fun h47 => absurd (show (true = false) from (show _ = true from rfl).symm.trans h47) (by decide))
        have hbad : ∃ p, rdNames tp tn 5 (i + 1) s n = p ∧ p.i = i + 2 + k ∧ (p.ok = false ∨ tsN tp tn (tP tp tn p.i) = 4) := by
          rcases hE with q | ⟨q1, q2⟩
          · refine ⟨_, q, ?_⟩
            rw [hg, rdNamF, if_neg (by rw [k36]; decide)]
            exact ⟨rfl, Or.inl rfl⟩
          · exact ⟨_, q2, rfl, Or.inr q1⟩
        obtain ⟨p, hp, hpi, hpb⟩ := hbad
        rw [hp]
        refine h_s rfl ?_
        refine hz_eq rfl rfl (fun h26 => absurd (show (true = false) from (show _ = true from rfl).symm.trans h26) (by decide)) (fun h26 => ?_)
        refine h_s rfl ?_
        refine h_gf rfl rfl rfl a54 rfl ?_
        refine hz_ne rfl rfl (fun h33 => ?_) (fun h33 => absurd (show (true = false) from (show _ = true from rfl).symm.trans h33) (by decide))
        exact h_r rfl ⟨rfl, Or.inr ⟨hpb, _, _, _, by rw [hpi]; exact T⟩, F⟩
    · obtain ⟨j, s2, vl2, rfl, rfl, hj120, T, F, hE⟩ := hJ
      exact absurd hj120 (by omega)
  · have T1 := T
    obtain ⟨a54, a55, a60, hl, h0, hn, tl, htn⟩ := id T
    refine h_n (st2 := []) rfl ?_
    refine h_s rfl ?_
    refine h_gf rfl rfl rfl a54 rfl ?_
    refine h_s rfl ?_
    refine h_k (y := 1) rfl rfl ?_
    refine h_s rfl ?_
    rw [show rdNames tp tn 5 (i + 1) s n = ⟨false, i + 1, s, n⟩ from if_neg (by rw [k38]; decide)]
    iterate 3 refine h_s rfl ?_
    refine h_gf rfl rfl rfl a54 rfl ?_
    refine hz_ne rfl rfl (fun h33 => ?_) (fun h33 => absurd (show (true = false) from (show _ = true from rfl).symm.trans h33) (by decide))
    exact h_r rfl ⟨rfl, Or.inr ⟨Or.inl rfl, _, _, _, T⟩, F⟩
end MJ
