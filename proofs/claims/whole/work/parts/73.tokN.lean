/-! TEXT: the reference reads tokens -/
def MT (w : ab_W) (s : List Int32) (n : Nat) (kp : Bool) (tp : List Int32) (tn : Nat) (fr to vl : Int32) (wr : Bool) : Prop := w[54]? = some (.inl (6, mObj kp tn fr to vl wr)) ∧ w[55]? = some (.inr s) ∧ w[60]? = some (.inr tp) ∧ s.length = 90 ∧ s.getD 0 0 = nI n ∧ n ≤ 8 ∧ tp.length = 120 ∧ tn ≤ 120
section MK
variable {X : List Int32} {w w1 : ab_W} {s : List Int32} {n : Nat} {kp : Bool} {tp : List Int32} {tn a e i : Nat} {fr to vl : Int32} {wr : Bool}
theorem MT.fr54 {fr1 to1 vl1 : Int32} {wr1 : Bool} {tn1 : Nat} (T : MT w s n kp tp tn fr to vl wr) (e : w1[54]? = some (.inl (6, mObj kp tn1 fr1 to1 vl1 wr1))) (h1 : tn1 ≤ 120) (F : ∀ j, j ≠ 54 → w1[j]? = w[j]?) : MT w1 s n kp tp tn1 fr1 to1 vl1 wr1 := ⟨e, (F 55 (by decide)).trans T.2.1, (F 60 (by decide)).trans T.2.2.1, T.2.2.2.1, T.2.2.2.2.1, T.2.2.2.2.2.1, T.2.2.2.2.2.2.1, h1⟩
theorem MT.fr55 {s1 : List Int32} {n1 : Nat} (T : MT w s n kp tp tn fr to vl wr) (e : w1[55]? = some (.inr s1)) (h1 : s1.length = 90) (h2 : s1.getD 0 0 = nI n1) (h3 : n1 ≤ 8) (F : ∀ j, j ≠ 55 → w1[j]? = w[j]?) : MT w1 s1 n1 kp tp tn fr to vl wr := ⟨(F 54 (by decide)).trans T.1, e, (F 60 (by decide)).trans T.2.2.1, h1, h2, h3, T.2.2.2.2.2.2⟩
set_option maxRecDepth 100000 in
set_option maxHeartbeats 4000000 in
theorem m_byteAt (T : MT w s n kp tp tn fr to vl wr) {a : Nat} (ha : a ≤ 120) : ab_M X kX6_byteAt [.ref 54, .int (nI a)] w (some (.int (byt tp tn a))) w := by
  have T0 := T
  obtain ⟨a54, a55, a60, hl, h0, hn, tl, htn⟩ := T
  show ab_G X kX6_byteAt 0 [some (.ref 54), some (.int (nI a))] [] w _ _
  iterate 2 refine ab_s rfl ?_
  refine ab_gf rfl rfl rfl a54 rfl ?_
  refine jN_ge rfl rfl rfl rfl (by omega) (by omega) (fun h5 => ?_) (fun h5 => ?_)
  · refine ab_k (y := (-1)) rfl rfl ?_
    exact ab_ri rfl (byt_ge (by omega)).symm
  · refine ab_s rfl ?_
    refine ab_gf rfl rfl rfl a54 rfl ?_
    refine ab_s rfl ?_
    refine ab_ia _ rfl a60 (by omega) rfl (by omega) ?_
    refine ab_s rfl ?_
    exact ab_ri rfl (byt_lt (by omega)).symm
set_option maxRecDepth 100000 in
set_option maxHeartbeats 4000000 in
theorem m_isLetter (x : Int32) : ab_M X kX6_isLetter [.int x] w (some (.int (z01 (ltB x)))) w := by
  show ab_G X kX6_isLetter 0 [some (.int x)] [] w _ _
  iterate 4 refine ab_s rfl ?_
  refine ab_c rfl m_in ?_
  refine ab_n (st2 := [_]) rfl ?_
  refine ab_rz rfl rfl ?_
  unfold ltB
  rw [show decide (((97 : Int64)) ≤ x.toInt64) = decide ((97 : Int32) ≤ x) from lle 97 x, show decide (x.toInt64 ≤ (122 : Int64)) = decide (x ≤ (122 : Int32)) from lle x 122]
set_option maxRecDepth 100000 in
set_option maxHeartbeats 4000000 in
theorem m_isDigit (x : Int32) : ab_M X kX6_isDigit [.int x] w (some (.int (z01 (dgB x)))) w := by
  show ab_G X kX6_isDigit 0 [some (.int x)] [] w _ _
  iterate 4 refine ab_s rfl ?_
  refine ab_c rfl m_in ?_
  refine ab_n (st2 := [_]) rfl ?_
  refine ab_rz rfl rfl ?_
  unfold dgB
  rw [show decide (((48 : Int64)) ≤ x.toInt64) = decide ((48 : Int32) ≤ x) from lle 48 x, show decide (x.toInt64 ≤ (57 : Int64)) = decide (x ≤ (57 : Int32)) from lle x 57]
set_option maxRecDepth 100000 in
set_option maxHeartbeats 4000000 in
theorem m_tok86 (T : MT w s n kp tp tn (nI a) (nI e) vl wr) (he : e ≤ tn) (b1 b2 : Bool) : ab_H X kX6_token 86 [some (.ref 54), some (.int (z01 b1)), some (.int (z01 b2))] [] w (fun v1 w1 => v1 = none ∧ MT w1 s n kp tp tn (nI a) (nI (runE (pB b1 b2) tp tn e)) vl wr ∧ ∀ j, j ≠ 54 → w1[j]? = w[j]?) := by
  refine h_loop0 (tn - e) (fun k ls v => ls = [some (.ref 54), some (.int (z01 b1)), some (.int (z01 b2))] ∧ MT v s n kp tp tn (nI a) (nI (e + k)) vl wr ∧ (∀ j, e ≤ j → j < e + k → j < tn ∧ pB b1 b2 (tp.getD j 0) = true) ∧ ∀ j, j ≠ 54 → v[j]? = w[j]?) ⟨rfl, T, fun j h1 h2 => absurd h2 (by omega), fun _ _ => rfl⟩ (fun k ls v hk hJ ih => ?_) (fun ls v hJ => ?_)
  · obtain ⟨rfl, T, hq, F⟩ := hJ
    have T0 := T
    obtain ⟨a54, a55, a60, hl, h0, hn, tl, htn⟩ := T
    refine h_s rfl ?_
    refine hz_eq rfl rfl (fun h87 => ?_) (fun h87 => ?_)
    · refine h_s rfl ?_
      refine hz_eq rfl rfl (fun h105 => ?_) (fun h105 => ?_)
      · have hp : pB b1 b2 (byt tp tn (e + k)) = false := by unfold pB; simp only [h87, h105, Bool.true_and, Bool.false_and, Bool.or_false, Bool.false_or, Bool.or_true, Bool.true_or, Bool.and_true, Bool.and_false]
        rw [byt_lt (by omega)] at hp
        rw [run_eq (show e ≤ e + k by omega) hq (fun q => by rw [hp] at q; exact absurd q.2 (by decide))]
        exact h_r rfl ⟨rfl, T0, F⟩
      · iterate 2 refine h_s rfl ?_
        refine h_gf rfl rfl rfl a54 rfl ?_
        refine h_cv rfl rfl rfl a54 rfl rfl (m_byteAt T0 (a := e + k) (by omega)) ?_
        refine h_n (st2 := [_]) rfl ?_
        refine h_c rfl (m_isDigit _) ?_
        refine h_n (st2 := [_]) rfl ?_
        refine hz_eq rfl rfl (fun h119 => ?_) (fun h119 => ?_)
        · have hp : pB b1 b2 (byt tp tn (e + k)) = false := by unfold pB; simp only [h87, h105, h119, Bool.true_and, Bool.false_and, Bool.or_false, Bool.false_or, Bool.or_true, Bool.true_or, Bool.and_true, Bool.and_false]
          rw [byt_lt (by omega)] at hp
          rw [run_eq (show e ≤ e + k by omega) hq (fun q => by rw [hp] at q; exact absurd q.2 (by decide))]
          exact h_r rfl ⟨rfl, T0, F⟩
        · iterate 2 refine h_s rfl ?_
          refine h_gf rfl rfl rfl a54 rfl ?_
          refine h_k (y := 1) rfl rfl ?_
          refine h_Nadd (b := 1) rfl rfl rfl ?_
          refine h_pf rfl rfl a54 rfl (fun w5 e5 f5 => ?_)
          have a54 := e5
          have a55 := (f5 55 (by decide)).trans a55
          have a60 := (f5 60 (by decide)).trans a60
          have F := fun j hj => (f5 j hj).trans (F j hj)
          refine h_s rfl ?_
          have hp : pB b1 b2 (byt tp tn (e + k)) = true := by unfold pB; simp only [h87, h105, h119, Bool.true_and, Bool.false_and, Bool.or_false, Bool.false_or, Bool.or_true, Bool.true_or, Bool.and_true, Bool.and_false]
          rw [byt_lt (by omega)] at hp
          refine ih _ _ ⟨rfl, T0.fr54 e5 htn f5, fun j h1 h2 => ?_, F⟩
          by_cases q : j = e + k
          · rw [q]; exact ⟨by omega, hp⟩
          · exact hq j h1 (by omega)
    · iterate 2 refine h_s rfl ?_
      refine h_gf rfl rfl rfl a54 rfl ?_
      refine h_cv rfl rfl rfl a54 rfl rfl (m_byteAt T0 (a := e + k) (by omega)) ?_
      refine h_n (st2 := [_]) rfl ?_
      refine h_c rfl (m_isLetter _) ?_
      refine h_n (st2 := [_]) rfl ?_
      refine hz_ne rfl rfl (fun h101 => ?_) (fun h101 => ?_)
      · iterate 2 refine h_s rfl ?_
        refine h_gf rfl rfl rfl a54 rfl ?_
        refine h_k (y := 1) rfl rfl ?_
        refine h_Nadd (b := 1) rfl rfl rfl ?_
        refine h_pf rfl rfl a54 rfl (fun w5 e5 f5 => ?_)
        have a54 := e5
        have a55 := (f5 55 (by decide)).trans a55
        have a60 := (f5 60 (by decide)).trans a60
        have F := fun j hj => (f5 j hj).trans (F j hj)
        refine h_s rfl ?_
        have hp : pB b1 b2 (byt tp tn (e + k)) = true := by unfold pB; simp only [h87, h101, Bool.true_and, Bool.false_and, Bool.or_false, Bool.false_or, Bool.or_true, Bool.true_or, Bool.and_true, Bool.and_false]
        rw [byt_lt (by omega)] at hp
        refine ih _ _ ⟨rfl, T0.fr54 e5 htn f5, fun j h1 h2 => ?_, F⟩
        by_cases q : j = e + k
        · rw [q]; exact ⟨by omega, hp⟩
        · exact hq j h1 (by omega)
      · refine h_s rfl ?_
        refine hz_eq rfl rfl (fun h105 => ?_) (fun h105 => ?_)
        · have hp : pB b1 b2 (byt tp tn (e + k)) = false := by unfold pB; simp only [h87, h101, h105, Bool.true_and, Bool.false_and, Bool.or_false, Bool.false_or, Bool.or_true, Bool.true_or, Bool.and_true, Bool.and_false]
          rw [byt_lt (by omega)] at hp
          rw [run_eq (show e ≤ e + k by omega) hq (fun q => by rw [hp] at q; exact absurd q.2 (by decide))]
          exact h_r rfl ⟨rfl, T0, F⟩
        · iterate 2 refine h_s rfl ?_
          refine h_gf rfl rfl rfl a54 rfl ?_
          refine h_cv rfl rfl rfl a54 rfl rfl (m_byteAt T0 (a := e + k) (by omega)) ?_
          refine h_n (st2 := [_]) rfl ?_
          refine h_c rfl (m_isDigit _) ?_
          refine h_n (st2 := [_]) rfl ?_
          refine hz_eq rfl rfl (fun h119 => ?_) (fun h119 => ?_)
          · have hp : pB b1 b2 (byt tp tn (e + k)) = false := by unfold pB; simp only [h87, h101, h105, h119, Bool.true_and, Bool.false_and, Bool.or_false, Bool.false_or, Bool.or_true, Bool.true_or, Bool.and_true, Bool.and_false]
            rw [byt_lt (by omega)] at hp
            rw [run_eq (show e ≤ e + k by omega) hq (fun q => by rw [hp] at q; exact absurd q.2 (by decide))]
            exact h_r rfl ⟨rfl, T0, F⟩
          · iterate 2 refine h_s rfl ?_
            refine h_gf rfl rfl rfl a54 rfl ?_
            refine h_k (y := 1) rfl rfl ?_
            refine h_Nadd (b := 1) rfl rfl rfl ?_
            refine h_pf rfl rfl a54 rfl (fun w5 e5 f5 => ?_)
            have a54 := e5
            have a55 := (f5 55 (by decide)).trans a55
            have a60 := (f5 60 (by decide)).trans a60
            have F := fun j hj => (f5 j hj).trans (F j hj)
            refine h_s rfl ?_
            have hp : pB b1 b2 (byt tp tn (e + k)) = true := by unfold pB; simp only [h87, h101, h105, h119, Bool.true_and, Bool.false_and, Bool.or_false, Bool.false_or, Bool.or_true, Bool.true_or, Bool.and_true, Bool.and_false]
            rw [byt_lt (by omega)] at hp
            refine ih _ _ ⟨rfl, T0.fr54 e5 htn f5, fun j h1 h2 => ?_, F⟩
            by_cases q : j = e + k
            · rw [q]; exact ⟨by omega, hp⟩
            · exact hq j h1 (by omega)
  · obtain ⟨rfl, T, hq, F⟩ := hJ
    have T0 := T
    obtain ⟨a54, a55, a60, hl, h0, hn, tl, htn⟩ := T
    refine h_s rfl ?_
    refine hz_eq rfl rfl (fun h87 => ?_) (fun h87 => ?_)
    · refine h_s rfl ?_
      refine hz_eq rfl rfl (fun h105 => ?_) (fun h105 => ?_)
      · rw [run_eq (show e ≤ e + (tn - e) by omega) hq (fun q => by have := q.1; omega)]
        exact h_r rfl ⟨rfl, T0, F⟩
      · iterate 2 refine h_s rfl ?_
        refine h_gf rfl rfl rfl a54 rfl ?_
        refine h_cv rfl rfl rfl a54 rfl rfl (m_byteAt T0 (a := e + (tn - e)) (by omega)) ?_
        refine h_n (st2 := [_]) rfl ?_
        refine h_c rfl (m_isDigit _) ?_
        refine h_n (st2 := [_]) rfl ?_
        refine hz_eq rfl rfl (fun h119 => ?_) (fun h119 => ?_)
        · rw [run_eq (show e ≤ e + (tn - e) by omega) hq (fun q => by have := q.1; omega)]
          exact h_r rfl ⟨rfl, T0, F⟩
        · iterate 2 refine h_s rfl ?_
          refine h_gf rfl rfl rfl a54 rfl ?_
          refine h_k (y := 1) rfl rfl ?_
          refine h_Nadd (b := 1) rfl rfl rfl ?_
          refine h_pf rfl rfl a54 rfl (fun w5 e5 f5 => ?_)
          have a54 := e5
          have a55 := (f5 55 (by decide)).trans a55
          have a60 := (f5 60 (by decide)).trans a60
          have F := fun j hj => (f5 j hj).trans (F j hj)
          refine h_s rfl ?_
          have hp : pB b1 b2 (byt tp tn (e + (tn - e))) = true := by unfold pB; simp only [h87, h105, h119, Bool.true_and, Bool.false_and, Bool.or_false, Bool.false_or, Bool.or_true, Bool.true_or, Bool.and_true, Bool.and_false]
          rw [byt_ge (by omega), pB_m] at hp
          cases hp
    · iterate 2 refine h_s rfl ?_
      refine h_gf rfl rfl rfl a54 rfl ?_
      refine h_cv rfl rfl rfl a54 rfl rfl (m_byteAt T0 (a := e + (tn - e)) (by omega)) ?_
      refine h_n (st2 := [_]) rfl ?_
      refine h_c rfl (m_isLetter _) ?_
      refine h_n (st2 := [_]) rfl ?_
      refine hz_ne rfl rfl (fun h101 => ?_) (fun h101 => ?_)
      · iterate 2 refine h_s rfl ?_
        refine h_gf rfl rfl rfl a54 rfl ?_
        refine h_k (y := 1) rfl rfl ?_
        refine h_Nadd (b := 1) rfl rfl rfl ?_
        refine h_pf rfl rfl a54 rfl (fun w5 e5 f5 => ?_)
        have a54 := e5
        have a55 := (f5 55 (by decide)).trans a55
        have a60 := (f5 60 (by decide)).trans a60
        have F := fun j hj => (f5 j hj).trans (F j hj)
        refine h_s rfl ?_
        have hp : pB b1 b2 (byt tp tn (e + (tn - e))) = true := by unfold pB; simp only [h87, h101, Bool.true_and, Bool.false_and, Bool.or_false, Bool.false_or, Bool.or_true, Bool.true_or, Bool.and_true, Bool.and_false]
        rw [byt_ge (by omega), pB_m] at hp
        cases hp
      · refine h_s rfl ?_
        refine hz_eq rfl rfl (fun h105 => ?_) (fun h105 => ?_)
        · rw [run_eq (show e ≤ e + (tn - e) by omega) hq (fun q => by have := q.1; omega)]
          exact h_r rfl ⟨rfl, T0, F⟩
        · iterate 2 refine h_s rfl ?_
          refine h_gf rfl rfl rfl a54 rfl ?_
          refine h_cv rfl rfl rfl a54 rfl rfl (m_byteAt T0 (a := e + (tn - e)) (by omega)) ?_
          refine h_n (st2 := [_]) rfl ?_
          refine h_c rfl (m_isDigit _) ?_
          refine h_n (st2 := [_]) rfl ?_
          refine hz_eq rfl rfl (fun h119 => ?_) (fun h119 => ?_)
          · rw [run_eq (show e ≤ e + (tn - e) by omega) hq (fun q => by have := q.1; omega)]
            exact h_r rfl ⟨rfl, T0, F⟩
          · iterate 2 refine h_s rfl ?_
            refine h_gf rfl rfl rfl a54 rfl ?_
            refine h_k (y := 1) rfl rfl ?_
            refine h_Nadd (b := 1) rfl rfl rfl ?_
            refine h_pf rfl rfl a54 rfl (fun w5 e5 f5 => ?_)
            have a54 := e5
            have a55 := (f5 55 (by decide)).trans a55
            have a60 := (f5 60 (by decide)).trans a60
            have F := fun j hj => (f5 j hj).trans (F j hj)
            refine h_s rfl ?_
            have hp : pB b1 b2 (byt tp tn (e + (tn - e))) = true := by unfold pB; simp only [h87, h101, h105, h119, Bool.true_and, Bool.false_and, Bool.or_false, Bool.false_or, Bool.or_true, Bool.true_or, Bool.and_true, Bool.and_false]
            rw [byt_ge (by omega), pB_m] at hp
            cases hp
set_option maxRecDepth 100000 in
set_option maxHeartbeats 4000000 in
theorem m_tok34 {t0 : Int32} {x1 x2 : Option Value} (T : MT w s n kp tp tn (nI a) t0 vl wr) (ha : a ≤ tn) : ab_H X kX6_token 34 [some (.ref 54), x1, x2] [] w (fun v1 w1 => v1 = none ∧ MT w1 s n kp tp tn (nI a) (nI (tkE tp tn a)) vl wr ∧ ∀ j, j ≠ 54 → w1[j]? = w[j]?) := by
  have hk := tk_run (tp := tp) ha
  have F : ∀ j, j ≠ 54 → w[j]? = w[j]? := fun _ _ => rfl
  rw [← hk]
  have T0 := T
  obtain ⟨a54, a55, a60, hl, h0, hn, tl, htn⟩ := T
  iterate 2 refine h_s rfl ?_
  refine h_gf rfl rfl rfl a54 rfl ?_
  refine h_cv rfl rfl rfl a54 rfl rfl (m_byteAt T0 (a := a) (by omega)) ?_
  refine h_n (st2 := [_]) rfl ?_
  refine h_c rfl (m_isLetter _) ?_
  refine h_n (st2 := [_]) rfl ?_
  iterate 3 refine h_s rfl ?_
  refine h_gf rfl rfl rfl a54 rfl ?_
  refine h_cv rfl rfl rfl a54 rfl rfl (m_byteAt T0 (a := a) (by omega)) ?_
  refine h_n (st2 := [_]) rfl ?_
  refine h_c rfl (m_isDigit _) ?_
  refine h_n (st2 := [_]) rfl ?_
  iterate 3 refine h_s rfl ?_
  refine h_gf rfl rfl rfl a54 rfl ?_
  refine h_s rfl ?_
  refine h_gf rfl rfl rfl a54 rfl ?_
  refine hN_ge rfl rfl rfl rfl (by omega) (by omega) (fun h67 => ?_) (fun h67 => ?_)
  · refine h_s rfl ?_
    refine h_gf rfl rfl rfl a54 rfl ?_
    refine h_pf rfl rfl a54 rfl (fun w5 e5 f5 => ?_)
    have a54 := e5
    have a55 := (f5 55 (by decide)).trans a55
    have a60 := (f5 60 (by decide)).trans a60
    have F := fun j hj => (f5 j hj).trans (F j hj)
    rw [if_neg (by omega)]
    obtain ⟨v6, w6, q6, r1, r2, r3⟩ := m_tok86 (X := X) (e := a) (T0.fr54 e5 htn f5) (by omega) (ltB (byt tp tn a)) (dgB (byt tp tn a))
    exact ⟨v6, w6, q6, r1, r2, fun j hj => (r3 j hj).trans (f5 j hj)⟩
  · refine h_s rfl ?_
    refine h_gf rfl rfl rfl a54 rfl ?_
    refine h_k (y := 1) rfl rfl ?_
    refine h_Nadd (b := 1) rfl rfl rfl ?_
    refine h_s rfl ?_
    refine h_pf rfl rfl a54 rfl (fun w5 e5 f5 => ?_)
    have a54 := e5
    have a55 := (f5 55 (by decide)).trans a55
    have a60 := (f5 60 (by decide)).trans a60
    have F := fun j hj => (f5 j hj).trans (F j hj)
    rw [if_pos (by omega)]
    obtain ⟨v6, w6, q6, r1, r2, r3⟩ := m_tok86 (X := X) (e := a + 1) (T0.fr54 e5 htn f5) (by omega) (ltB (byt tp tn a)) (dgB (byt tp tn a))
    exact ⟨v6, w6, q6, r1, r2, fun j hj => (r3 j hj).trans (f5 j hj)⟩
set_option maxRecDepth 100000 in
set_option maxHeartbeats 4000000 in
theorem m_token (T : MT w s n kp tp tn fr (nI e) vl wr) (he : e ≤ tn) : ab_Q X kX6_token [.ref 54] w (fun v1 w1 => v1 = none ∧ MT w1 s n kp tp tn (nI (spE tp tn e)) (nI (tkE tp tn (spE tp tn e))) vl wr ∧ ∀ j, j ≠ 54 → w1[j]? = w[j]?) := by
  have T0 := T
  obtain ⟨a54, a55, a60, hl, h0, hn, tl, htn⟩ := T
  have F : ∀ j, j ≠ 54 → w[j]? = w[j]? := fun _ _ => rfl
  show ab_H X kX6_token 0 [some (.ref 54), none, none] [] w _
  iterate 2 refine h_s rfl ?_
  refine h_gf rfl rfl rfl a54 rfl ?_
  refine h_pf rfl rfl a54 rfl (fun w5 e5 f5 => ?_)
  have a54 := e5
  have a55 := (f5 55 (by decide)).trans a55
  have a60 := (f5 60 (by decide)).trans a60
  have F := fun j hj => (f5 j hj).trans (F j hj)
  refine h_loop0 (tn - e) (fun k ls v => ls = [some (.ref 54), none, none] ∧ MT v s n kp tp tn (nI (e + k)) (nI e) vl wr ∧ (∀ j, e ≤ j → j < e + k → j < tn ∧ spB (tp.getD j 0) = true) ∧ ∀ j, j ≠ 54 → v[j]? = w[j]?) ⟨rfl, T0.fr54 e5 htn f5, fun j h1 h2 => absurd h2 (by omega), F⟩ (fun k ls v hk hJ ih => ?_) (fun ls v hJ => ?_)
  · obtain ⟨rfl, T, hq, F⟩ := hJ
    have T0 := T
    obtain ⟨a54, a55, a60, hl, h0, hn, tl, htn⟩ := T
    iterate 2 refine h_s rfl ?_
    refine h_gf rfl rfl rfl a54 rfl ?_
    refine h_cv rfl rfl rfl a54 rfl rfl (m_byteAt T0 (a := e + k) (by omega)) ?_
    refine h_n (st2 := [_]) rfl ?_
    refine h_k (y := 32) rfl rfl ?_
    refine h2_ne rfl rfl (fun h18 => ?_) (fun h18 => ?_)
    · rw [byt_lt (by omega)] at h18
      have hsp : spE tp tn e = e + k := run_eq (by omega) hq (fun q => h18 (of_decide_eq_true q.2))
      rw [hsp]
      obtain ⟨v6, w6, q6, r1, r2, r3⟩ := m_tok34 (X := X) (x1 := none) (x2 := none) T0 (by omega)
      exact ⟨v6, w6, q6, r1, r2, fun j hj => (r3 j hj).trans (F j hj)⟩
    · iterate 2 refine h_s rfl ?_
      refine h_gf rfl rfl rfl a54 rfl ?_
      refine h_k (y := 1) rfl rfl ?_
      refine h_Nadd (b := 1) rfl rfl rfl ?_
      refine h_pf rfl rfl a54 rfl (fun w5 e5 f5 => ?_)
      have a54 := e5
      have a55 := (f5 55 (by decide)).trans a55
      have a60 := (f5 60 (by decide)).trans a60
      have F := fun j hj => (f5 j hj).trans (F j hj)
      refine h_s rfl ?_
      rw [byt_lt (by omega)] at h18
      refine ih _ _ ⟨rfl, T0.fr54 e5 htn f5, fun j h1 h2 => ?_, F⟩
      by_cases q : j = e + k
      · rw [q]; exact ⟨by omega, decide_eq_true h18⟩
      · exact hq j h1 (by omega)
  · obtain ⟨rfl, T, hq, F⟩ := hJ
    have T0 := T
    obtain ⟨a54, a55, a60, hl, h0, hn, tl, htn⟩ := T
    iterate 2 refine h_s rfl ?_
    refine h_gf rfl rfl rfl a54 rfl ?_
    refine h_cv rfl rfl rfl a54 rfl rfl (m_byteAt T0 (a := e + (tn - e)) (by omega)) ?_
    refine h_n (st2 := [_]) rfl ?_
    refine h_k (y := 32) rfl rfl ?_
    refine h2_ne rfl rfl (fun h18 => ?_) (fun h18 => absurd h18 (by rw [byt_ge (by omega)]; decide))
    have hsp : spE tp tn e = e + (tn - e) := run_eq (by omega) hq (fun q => by have := q.1; omega)
    rw [hsp]
    obtain ⟨v6, w6, q6, r1, r2, r3⟩ := m_tok34 (X := X) (x1 := none) (x2 := none) T0 (by omega)
    exact ⟨v6, w6, q6, r1, r2, fun j hj => (r3 j hj).trans (F j hj)⟩
end MK
