/-! THE REFERENCE: open, quarrel -/
theorem inn_mark {x : Int32} {f : Nat} (z : Bool) (hx : inn x 8) (hf : f < 8) : inn (markI x f z) 8 := by
  intro i h1 h2
  unfold markI
  cases z with
  | true =>
    rw [if_pos rfl, b_or, hx i h1 h2, b_sh (by omega) h2, decide_eq_false (by omega)]
    rfl
  | false =>
    rw [if_neg (by decide), b_and, hx i h1 h2]
    rfl
def quarS (s : List Int32) (a b : Nat) : List Int32 := (s.set (2 + 8 * a + 2) (markI (fld s a 2) b false)).set (2 + 8 * a + 5) (markI (fld s a 5) b true)
theorem quar_l (s : List Int32) (a b : Nat) : (quarS s a b).length = s.length := by
  unfold quarS
  rw [List.length_set, List.length_set]
theorem quar_SI {s : List Int32} {n a b : Nat} (I : SI s n) (hl : s.length = 90) (ha : a < n) (hn : n ≤ 8) (hb : b < 8) : SI (quarS s a b) n :=
  SI_foes (SI_leave I hl (by omega) (inn_mark false (I.1 a ha).2.2.1 hb)) (by rw [List.length_set]; exact hl) (by omega) (inn_mark true (I.1 a ha).2.2.2.2.2.1 hb)
section MG
variable {X : List Int32} {w : ab_W} {s : List Int32} {n : Nat} {st ks : List Int32} {kp : Bool} {tp : List Int32} {tn : Nat} {bo so nu : List Int32}
set_option maxRecDepth 100000 in
set_option maxHeartbeats 4000000 in
theorem m_quarrels (R : MW w s n st ks kp tp tn bo so nu) (a b : Nat) (ha : a < 8) (hb : b < 8) : ab_Q X kX6_quarrels [.ref 54, .int (nI a), .int (nI b)] w (fun v w1 => v = none ∧ MW w1 (quarS s a b) n st ks kp tp tn bo so nu ∧ w1[55]? = some (.inr (quarS s a b)) ∧ ∀ i, i ≠ 55 → w1[i]? = w[i]?) := by
  have M := R.ms
  have R0 := R
  obtain ⟨oth, nz, mv, fr, to, vl, wr, a54, a55, a56, a57, a58, a59, a60, a61, a62, a63, a64, l, h0, hn, ht⟩ := R
  show ab_H X kX6_quarrels 0 [some (.ref 54), some (.int (nI a)), some (.int (nI b))] [] w _
  refine h_s rfl ?_
  refine h_gf rfl rfl rfl a54 rfl ?_
  refine h_s rfl ?_
  refine h_k (y := 2) rfl rfl ?_
  refine h_c rfl (m_at a 2 rfl rfl) ?_
  refine h_n (st2 := [_, _]) rfl ?_
  refine h_s rfl ?_
  refine h_ia (2 + 8 * a + 2) rfl a55 (by omega) rfl (by omega) ?_
  refine h_k (y := 1) rfl rfl ?_
  iterate 2 refine h_s rfl ?_
  refine h_k (y := (-1)) rfl rfl ?_
  iterate 2 refine h_s rfl ?_
  refine h_is (2 + 8 * a + 2) rfl a55 (by omega) rfl (by omega) (fun w1 e1 f1 => ?_)
  have a54 := (f1 54 (by decide)).trans a54
  have a55 := e1
  refine h_s rfl ?_
  refine h_gf rfl rfl rfl a54 rfl ?_
  refine h_s rfl ?_
  refine h_k (y := 5) rfl rfl ?_
  refine h_c rfl (m_at a 5 rfl rfl) ?_
  refine h_n (st2 := [_, _]) rfl ?_
  refine h_s rfl ?_
  refine h_ia (2 + 8 * a + 5) rfl a55 (by rw [List.length_set]; omega) rfl (by rw [List.length_set]; omega) ?_
  refine h_t (gD_ne (by omega)) ?_
  refine h_k (y := 1) rfl rfl ?_
  iterate 3 refine h_s rfl ?_
  refine h_is (2 + 8 * a + 5) rfl a55 (by rw [List.length_set]; omega) rfl (by rw [List.length_set]; omega) (fun w2 e2 f2 => ?_)
  have e3 : w2[55]? = some (.inr (quarS s a b)) := e2
  have F : ∀ i, i ≠ 55 → w2[i]? = w[i]? := fun i hi => (f2 i hi).trans (f1 i hi)
  exact h_r rfl ⟨rfl, R0.s55 e3 ((quar_l s a b).trans l.1) (by unfold quarS; rw [gD_ne (by omega), gD_ne (by omega)]; exact h0) hn F, e3, F⟩
set_option maxRecDepth 100000 in
set_option maxHeartbeats 4000000 in
theorem m_quarrel_k (R : MW w s n st ks kp tp tn bo so nu) (I : SI s n) (a b c : Nat) (ha : a < n) (hb : b < n) (hab : ¬ a = b) (hc : c < 24) : ab_Q X kX6_quarrel [.ref 54, .int (nI a), .int (nI b), .int (nI c)] w (MP w (nI (offN (quarS (quarS s a b) b a) n (nI c)) - nI (offN s n (nI c))) s n st ks kp tp tn bo so nu) := by
  have M := R.ms
  have R0 := R
  obtain ⟨oth, nz, mv, fr, to, vl, wr, a54, a55, a56, a57, a58, a59, a60, a61, a62, a63, a64, l, h0, hn, ht⟩ := R
  show ab_H X kX6_quarrel 0 [some (.ref 54), some (.int (nI a)), some (.int (nI b)), some (.int (nI c)), none, none] [] w _
  iterate 2 refine h_s rfl ?_
  refine h_cv rfl rfl rfl a54 rfl rfl (m_isHouse1 M ⟨a, by omega, rfl⟩) ?_
  refine h_n (st2 := [_]) rfl ?_
  iterate 3 refine h_s rfl ?_
  refine h_cv rfl rfl rfl a54 rfl rfl (m_isHouse1 M ⟨b, by omega, rfl⟩) ?_
  refine h_n (st2 := [_]) rfl ?_
  iterate 3 refine h_s rfl ?_
  refine h2_eq rfl rfl (fun h18 => absurd h18 (fun q => hab ((nI_eq (by omega) (by omega)).mp q))) (fun h18 => ?_)
  refine h_s rfl ?_
  refine h_c rfl (m_isClock1 ⟨c, by omega, rfl⟩) ?_
  refine h_n (st2 := [_]) rfl ?_
  iterate 3 refine h_s rfl ?_
  refine h_cv rfl rfl rfl a54 rfl rfl (m_offSet M I (nI c)) ?_
  refine h_n (st2 := [_]) rfl ?_
  refine h_c rfl (m_onesO s (nI c) hn) ?_
  refine h_n (st2 := [_]) rfl ?_
  iterate 2 refine h_s rfl ?_
  refine hq_v rfl rfl rfl a54 rfl rfl (m_puts R0) (fun v1 w1 q1 => ?_)
  obtain ⟨rfl, R1, o1, F1⟩ := q1
  have a54 := (F1 54 (by decide)).trans a54
  refine h_n (st2 := []) rfl ?_
  iterate 3 refine h_s rfl ?_
  refine hq_v rfl rfl rfl a54 rfl rfl (m_quarrels R1 a b (by omega) (by omega)) (fun v2 w2 q2 => ?_)
  obtain ⟨rfl, R2, -, F2⟩ := q2
  have I2 := quar_SI I l.1 ha hn (show b < 8 by omega)
  have a54 := (F2 54 (by decide)).trans a54
  refine h_n (st2 := []) rfl ?_
  iterate 3 refine h_s rfl ?_
  refine hq_v rfl rfl rfl a54 rfl rfl (m_quarrels R2 b a (by omega) (by omega)) (fun v3 w3 q3 => ?_)
  obtain ⟨rfl, R3, -, F3⟩ := q3
  have I3 := quar_SI I2 ((quar_l s a b).trans l.1) hb hn (show a < 8 by omega)
  have a54 := (F3 54 (by decide)).trans a54
  refine h_n (st2 := []) rfl ?_
  iterate 2 refine h_s rfl ?_
  refine h_cv rfl rfl rfl a54 rfl rfl (m_offSet R3.ms I3 (nI c)) ?_
  refine h_n (st2 := [_]) rfl ?_
  refine h_c rfl (m_onesO (quarS (quarS s a b) b a) (nI c) hn) ?_
  refine h_n (st2 := [_]) rfl ?_
  iterate 2 refine h_s rfl ?_
  refine hq_v rfl rfl rfl a54 rfl rfl (m_putsBack R3 s n ((F3 57 (by decide)).trans ((F2 57 (by decide)).trans o1)) h0 hn) (fun v4 w4 q4 => ?_)
  obtain ⟨rfl, R4, F4⟩ := q4
  refine h_n (st2 := []) rfl ?_
  iterate 3 refine h_s rfl ?_
  exact h_ri rfl rfl ⟨rfl, R4, fun i hi => (F4 i (by omega)).trans ((F3 i (by omega)).trans ((F2 i (by omega)).trans (F1 i (by omega))))⟩
set_option maxRecDepth 100000 in
set_option maxHeartbeats 4000000 in
theorem m_open_k (R : MW w s n st ks kp tp tn bo so nu) (I : SI s n) (c : Nat) (hc : c < 24) (B : Int32 × Nat) (hB : bestD (fun d => !dB s d) (fun d => offN (s.set (66 + d) 1) n (nI c)) 14 = B) : ab_Q X kX6_open [.ref 54, .int (nI c)] w (fun v w1 => if B.1 < 0 then MP w (-1000004) s n (bump st 3) ks kp tp tn bo so nu v w1 else MP w B.1 s n st ks kp tp tn bo so nu v w1) := by
  have M := R.ms
  have R0 := R
  obtain ⟨oth, nz, mv, fr, to, vl, wr, a54, a55, a56, a57, a58, a59, a60, a61, a62, a63, a64, l, h0, hn, ht⟩ := R
  show ab_H X kX6_open 0 [some (.ref 54), some (.int (nI c)), none, none, none, none] [] w _
  refine h_s rfl ?_
  refine h_c rfl (m_isClock1 ⟨c, by omega, rfl⟩) ?_
  refine h_n (st2 := [_]) rfl ?_
  refine h_s rfl ?_
  refine h_k (y := (-1)) rfl rfl ?_
  refine h_s rfl ?_
  refine h_k (y := 0) rfl rfl ?_
  refine h_s rfl ?_
  refine h_k (y := 0) rfl rfl ?_
  refine h_s rfl ?_
  refine h_loop0 14 (fun i ls w1 => (∀ j, j ≠ 55 → w1[j]? = w[j]?) ∧ w1[55]? = some (.inr s) ∧ ∃ b lw x, bestD (fun d => !dB s d) (fun d => offN (s.set (66 + d) 1) n (nI c)) i = (b, lw) ∧ lw ≤ 8 ∧ ls = [some (.ref 54), some (.int (nI c)), some (.int b), some (.int (nI lw)), some (.int (nI i)), x]) ⟨fun _ _ => rfl, a55, -1, 0, none, rfl, by omega, rfl⟩ (fun i ls w1 hi hJ ih => ?_) (fun ls w1 hJ => ?_)
  · obtain ⟨F, a55', b, lw, x, hbl, hlw, rfl⟩ := hJ
    have a54' := (F 54 (by decide)).trans a54
    have R1 := R0.s55 a55' l.1 h0 hn F
    obtain ⟨W, hW⟩ : ∃ W, offN (s.set (66 + i) 1) n (nI c) = W := ⟨_, rfl⟩
    have hW16 : W ≤ 8 := by rw [← hW]; exact Nat.le_trans (offN_le ..) hn
    have hd : dB s i = decide (¬ s.getD (66 + i) 0 = 0) := by
      obtain ⟨z, hz⟩ := I.2.1 i hi
      unfold dB
      rw [hz]
      cases z <;> rfl
    refine h_s rfl ?_
    refine h_k (y := 14) rfl rfl ?_
    refine h2_ge rfl rfl (fun h25 => absurd h25 (nI_ge (b := 14) hi (by omega))) (fun h25 => ?_)
    refine h_s rfl ?_
    refine h_gf rfl rfl rfl a54' rfl ?_
    refine h_k (y := 66) rfl rfl ?_
    iterate 2 refine h_s rfl ?_
    refine h_ia (66 + i) rfl a55' (by omega) (nI_add 66 i) (by omega) ?_
    refine h1_ne rfl rfl (fun h38 => ?_) (fun h38 => ?_)
    · refine h_ii rfl rfl rfl ?_
      refine h_s rfl ?_
      have e : bestD (fun d => !dB s d) (fun d => offN (s.set (66 + d) 1) n (nI c)) (i + 1) = if (!dB s i) = true ∧ (b < 0 ∨ W < lw) then (nI i, W) else (b, lw) := by
        show (if (!dB s i) = true ∧ ((bestD (fun d => !dB s d) (fun d => offN (s.set (66 + d) 1) n (nI c)) i).1 < 0 ∨ offN (s.set (66 + i) 1) n (nI c) < (bestD (fun d => !dB s d) (fun d => offN (s.set (66 + d) 1) n (nI c)) i).2) then (nI i, offN (s.set (66 + i) 1) n (nI c)) else bestD (fun d => !dB s d) (fun d => offN (s.set (66 + d) 1) n (nI c)) i) = _
        rw [hW, hbl]
      rw [if_neg (show ¬ ((!dB s i) = true ∧ (b < 0 ∨ W < lw)) from fun q => absurd q.1 (by rw [hd, decide_eq_true h38]; decide))] at e
      exact ih _ _ ⟨F, a55', _, _, _, e, by omega, rfl⟩
    · refine h_s rfl ?_
      refine h_gf rfl rfl rfl a54' rfl ?_
      refine h_k (y := 66) rfl rfl ?_
      iterate 2 refine h_s rfl ?_
      refine h_k (y := 1) rfl rfl ?_
      have h38d : ¬ ¬ s.getD (66 + i) 0 = 0 := fun q => q h38
      refine h_is (66 + i) rfl a55' (by omega) (nI_add 66 i) (by omega) (fun w2 e2 f2 => ?_)
      have M2 := (R1.sj e2 (by omega) f2).ms
      have I2 := SI_door I l.1 hn (b := true) hi
      have a54' := (f2 54 (by decide)).trans a54'
      iterate 2 refine h_s rfl ?_
      refine h_cv rfl rfl rfl a54' rfl rfl (m_offSet M2 I2 (nI c)) ?_
      refine h_n (st2 := [_]) rfl ?_
      refine h_c rfl (m_onesO (s.set (66 + i) 1) (nI c) hn) ?_
      refine h_t (congrArg nI hW) ?_
      refine h_n (st2 := [_]) rfl ?_
      iterate 2 refine h_s rfl ?_
      refine h_gf rfl rfl rfl a54' rfl ?_
      refine h_k (y := 66) rfl rfl ?_
      iterate 2 refine h_s rfl ?_
      refine h_k (y := 0) rfl rfl ?_
      refine h_is (66 + i) rfl e2 (by rw [List.length_set]; omega) (nI_add 66 i) (by rw [List.length_set]; omega) (fun w3 e3 f3 => ?_)
      have hz : s.getD (66 + i) 0 = 0 := h38
      rw [show (0 : Int32) = s.getD (66 + i) 0 from hz.symm, set_back s (66 + i) 1 (by omega)] at e3
      refine h_s rfl ?_
      refine h1_lt rfl rfl (fun h74 => ?_) (fun h74 => ?_)
      · iterate 4 refine h_s rfl ?_
        refine h_ii rfl rfl rfl ?_
        refine h_s rfl ?_
        have e : bestD (fun d => !dB s d) (fun d => offN (s.set (66 + d) 1) n (nI c)) (i + 1) = if (!dB s i) = true ∧ (b < 0 ∨ W < lw) then (nI i, W) else (b, lw) := by
          show (if (!dB s i) = true ∧ ((bestD (fun d => !dB s d) (fun d => offN (s.set (66 + d) 1) n (nI c)) i).1 < 0 ∨ offN (s.set (66 + i) 1) n (nI c) < (bestD (fun d => !dB s d) (fun d => offN (s.set (66 + d) 1) n (nI c)) i).2) then (nI i, offN (s.set (66 + i) 1) n (nI c)) else bestD (fun d => !dB s d) (fun d => offN (s.set (66 + d) 1) n (nI c)) i) = _
          rw [hW, hbl]
        try rw [nI_leI (by omega) (by omega)] at h80
        first | rw [if_pos (show (!dB s i) = true ∧ (b < 0 ∨ W < lw) from ⟨by rw [hd, decide_eq_false h38d]; rfl, Or.inl h74⟩)] at e | rw [if_pos (show (!dB s i) = true ∧ (b < 0 ∨ W < lw) from ⟨by rw [hd, decide_eq_false h38d]; rfl, Or.inr (by omega)⟩)] at e | rw [if_neg (show ¬ ((!dB s i) = true ∧ (b < 0 ∨ W < lw)) from fun q => q.2.elim h74 (by omega))] at e
        exact ih _ _ ⟨fun j hj => (f3 j hj).trans ((f2 j hj).trans (F j hj)), e3, _, _, _, e, by omega, rfl⟩
      · iterate 2 refine h_s rfl ?_
        refine h2_ge rfl rfl (fun h80 => ?_) (fun h80 => ?_)
        · refine h_ii rfl rfl rfl ?_
          refine h_s rfl ?_
          have e : bestD (fun d => !dB s d) (fun d => offN (s.set (66 + d) 1) n (nI c)) (i + 1) = if (!dB s i) = true ∧ (b < 0 ∨ W < lw) then (nI i, W) else (b, lw) := by
            show (if (!dB s i) = true ∧ ((bestD (fun d => !dB s d) (fun d => offN (s.set (66 + d) 1) n (nI c)) i).1 < 0 ∨ offN (s.set (66 + i) 1) n (nI c) < (bestD (fun d => !dB s d) (fun d => offN (s.set (66 + d) 1) n (nI c)) i).2) then (nI i, offN (s.set (66 + i) 1) n (nI c)) else bestD (fun d => !dB s d) (fun d => offN (s.set (66 + d) 1) n (nI c)) i) = _
            rw [hW, hbl]
          try rw [nI_leI (by omega) (by omega)] at h80
          first | rw [if_pos (show (!dB s i) = true ∧ (b < 0 ∨ W < lw) from ⟨by rw [hd, decide_eq_false h38d]; rfl, Or.inl h74⟩)] at e | rw [if_pos (show (!dB s i) = true ∧ (b < 0 ∨ W < lw) from ⟨by rw [hd, decide_eq_false h38d]; rfl, Or.inr (by omega)⟩)] at e | rw [if_neg (show ¬ ((!dB s i) = true ∧ (b < 0 ∨ W < lw)) from fun q => q.2.elim h74 (by omega))] at e
          exact ih _ _ ⟨fun j hj => (f3 j hj).trans ((f2 j hj).trans (F j hj)), e3, _, _, _, e, by omega, rfl⟩
        · iterate 4 refine h_s rfl ?_
          refine h_ii rfl rfl rfl ?_
          refine h_s rfl ?_
          have e : bestD (fun d => !dB s d) (fun d => offN (s.set (66 + d) 1) n (nI c)) (i + 1) = if (!dB s i) = true ∧ (b < 0 ∨ W < lw) then (nI i, W) else (b, lw) := by
            show (if (!dB s i) = true ∧ ((bestD (fun d => !dB s d) (fun d => offN (s.set (66 + d) 1) n (nI c)) i).1 < 0 ∨ offN (s.set (66 + i) 1) n (nI c) < (bestD (fun d => !dB s d) (fun d => offN (s.set (66 + d) 1) n (nI c)) i).2) then (nI i, offN (s.set (66 + i) 1) n (nI c)) else bestD (fun d => !dB s d) (fun d => offN (s.set (66 + d) 1) n (nI c)) i) = _
            rw [hW, hbl]
          try rw [nI_leI (by omega) (by omega)] at h80
          first | rw [if_pos (show (!dB s i) = true ∧ (b < 0 ∨ W < lw) from ⟨by rw [hd, decide_eq_false h38d]; rfl, Or.inl h74⟩)] at e | rw [if_pos (show (!dB s i) = true ∧ (b < 0 ∨ W < lw) from ⟨by rw [hd, decide_eq_false h38d]; rfl, Or.inr (by omega)⟩)] at e | rw [if_neg (show ¬ ((!dB s i) = true ∧ (b < 0 ∨ W < lw)) from fun q => q.2.elim h74 (by omega))] at e
          exact ih _ _ ⟨fun j hj => (f3 j hj).trans ((f2 j hj).trans (F j hj)), e3, _, _, _, e, by omega, rfl⟩
  · obtain ⟨F, a55', b, lw, x, hbl, hlw, rfl⟩ := hJ
    rw [hB] at hbl
    subst hbl
    have R1 := R0.s55 a55' l.1 h0 hn F
    have a54' := (F 54 (by decide)).trans a54
    refine h_s rfl ?_
    refine h_k (y := 14) rfl rfl ?_
    refine h2_ge rfl rfl (fun h25 => ?_) (fun h25 => absurd (nI_le (a := 14) (b := 14) (Nat.le_refl _) (by omega)) h25)
    refine h_s rfl ?_
    refine h1_ge rfl rfl (fun h96 => ?_) (fun h96 => ?_)
    · refine h_s rfl ?_
      have hb : ¬ b < 0 := by
        rw [lt_iff]
        rw [le_iff] at h96
        have : (0 : Int32).toInt = 0 := rfl
        omega
      exact h_ri rfl rfl (by rw [if_neg hb]; exact ⟨rfl, R1, fun i hi => F i (by omega)⟩)
    · iterate 2 refine h_s rfl ?_
      refine hq_v rfl rfl rfl a54' rfl rfl (m_finds R1 3 (by omega) _ (by decide)) (fun v1 w1 q1 => ?_)
      obtain ⟨rfl, q2, q3⟩ := q1
      refine h_n (st2 := [_]) rfl ?_
      refine h_s rfl ?_
      have hb : b < 0 := by
        rw [lt_iff]
        rw [le_iff] at h96
        have : (0 : Int32).toInt = 0 := rfl
        omega
      exact h_ri rfl rfl (by rw [if_pos hb]; exact ⟨rfl, q2, fun i hi => (q3 i hi).trans (F i (by omega))⟩)
end MG
