/-! TEXT: the reference's items: a house -/
section MI
variable {X : List Int32} {w w1 : ab_W} {s : List Int32} {n : Nat} {kp : Bool} {tp : List Int32} {tn a e i : Nat} {fr to vl : Int32} {wr : Bool}
set_option maxRecDepth 100000 in
set_option maxHeartbeats 4000000 in
theorem m_newH (T : MT w s n kp tp tn fr to vl wr) (k : Int32) (hn8 : n < 8) : ab_Q X kX6_newHouse [.ref 54, .int k] w (fun v w1 => v = some (.int (nI n)) ∧ MT w1 (newS s n k) (n + 1) kp tp tn fr to vl wr ∧ ∀ j, j ≠ 55 → w1[j]? = w[j]?) := by
  have T0 := T
  obtain ⟨a54, a55, a60, hl, h0, hn, tl, htn⟩ := T
  show ab_H X kX6_newHouse 0 [some (.ref 54), some (.int k), none] [] w _
  have F : ∀ i, i ≠ 55 → w[i]? = w[i]? := fun i _ => rfl
  refine h_s rfl ?_
  refine h_gf rfl rfl rfl a54 rfl ?_
  refine h_k (y := 0) rfl rfl ?_
  refine h_ia 0 rfl a55 (by omega) rfl (by omega) ?_
  refine h_t h0 ?_
  iterate 2 refine h_s rfl ?_
  refine h_gf rfl rfl rfl a54 rfl ?_
  refine h_s rfl ?_
  refine h_k (y := 0) rfl rfl ?_
  refine h_c rfl (m_at n 0 rfl rfl) ?_
  refine h_s rfl ?_
  refine h_is (2 + 8 * n + 0) rfl a55 (by first | omega | (simp only [newS, List.length_set]; omega)) rfl (by first | omega | (simp only [newS, List.length_set]; omega)) (fun w1 e1 f1 => ?_)
  have a54 := (f1 54 (by decide)).trans a54
  have a55 := e1
  have F := fun i (hi : i ≠ 55) => (f1 i hi).trans (F i hi)
  refine h_s rfl ?_
  refine h_gf rfl rfl rfl a54 rfl ?_
  refine h_s rfl ?_
  refine h_k (y := 1) rfl rfl ?_
  refine h_c rfl (m_at n 1 rfl rfl) ?_
  refine h_k (y := (-1)) rfl rfl ?_
  refine h_is (2 + 8 * n + 1) rfl a55 (by first | omega | (simp only [newS, List.length_set]; omega)) rfl (by first | omega | (simp only [newS, List.length_set]; omega)) (fun w1 e1 f1 => ?_)
  have a54 := (f1 54 (by decide)).trans a54
  have a55 := e1
  have F := fun i (hi : i ≠ 55) => (f1 i hi).trans (F i hi)
  refine h_s rfl ?_
  refine h_gf rfl rfl rfl a54 rfl ?_
  refine h_s rfl ?_
  refine h_k (y := 2) rfl rfl ?_
  refine h_c rfl (m_at n 2 rfl rfl) ?_
  refine h_k (y := 0) rfl rfl ?_
  refine h_is (2 + 8 * n + 2) rfl a55 (by first | omega | (simp only [newS, List.length_set]; omega)) rfl (by first | omega | (simp only [newS, List.length_set]; omega)) (fun w1 e1 f1 => ?_)
  have a54 := (f1 54 (by decide)).trans a54
  have a55 := e1
  have F := fun i (hi : i ≠ 55) => (f1 i hi).trans (F i hi)
  refine h_s rfl ?_
  refine h_gf rfl rfl rfl a54 rfl ?_
  refine h_s rfl ?_
  refine h_k (y := 3) rfl rfl ?_
  refine h_c rfl (m_at n 3 rfl rfl) ?_
  refine h_k (y := 6) rfl rfl ?_
  refine h_is (2 + 8 * n + 3) rfl a55 (by first | omega | (simp only [newS, List.length_set]; omega)) rfl (by first | omega | (simp only [newS, List.length_set]; omega)) (fun w1 e1 f1 => ?_)
  have a54 := (f1 54 (by decide)).trans a54
  have a55 := e1
  have F := fun i (hi : i ≠ 55) => (f1 i hi).trans (F i hi)
  refine h_s rfl ?_
  refine h_gf rfl rfl rfl a54 rfl ?_
  refine h_s rfl ?_
  refine h_k (y := 4) rfl rfl ?_
  refine h_c rfl (m_at n 4 rfl rfl) ?_
  refine h_k (y := 22) rfl rfl ?_
  refine h_is (2 + 8 * n + 4) rfl a55 (by first | omega | (simp only [newS, List.length_set]; omega)) rfl (by first | omega | (simp only [newS, List.length_set]; omega)) (fun w1 e1 f1 => ?_)
  have a54 := (f1 54 (by decide)).trans a54
  have a55 := e1
  have F := fun i (hi : i ≠ 55) => (f1 i hi).trans (F i hi)
  refine h_s rfl ?_
  refine h_gf rfl rfl rfl a54 rfl ?_
  refine h_s rfl ?_
  refine h_k (y := 5) rfl rfl ?_
  refine h_c rfl (m_at n 5 rfl rfl) ?_
  refine h_k (y := 0) rfl rfl ?_
  refine h_is (2 + 8 * n + 5) rfl a55 (by first | omega | (simp only [newS, List.length_set]; omega)) rfl (by first | omega | (simp only [newS, List.length_set]; omega)) (fun w1 e1 f1 => ?_)
  have a54 := (f1 54 (by decide)).trans a54
  have a55 := e1
  have F := fun i (hi : i ≠ 55) => (f1 i hi).trans (F i hi)
  refine h_s rfl ?_
  refine h_gf rfl rfl rfl a54 rfl ?_
  refine h_s rfl ?_
  refine h_k (y := 6) rfl rfl ?_
  refine h_c rfl (m_at n 6 rfl rfl) ?_
  refine h_k (y := 2) rfl rfl ?_
  refine h_is (2 + 8 * n + 6) rfl a55 (by first | omega | (simp only [newS, List.length_set]; omega)) rfl (by first | omega | (simp only [newS, List.length_set]; omega)) (fun w1 e1 f1 => ?_)
  have a54 := (f1 54 (by decide)).trans a54
  have a55 := e1
  have F := fun i (hi : i ≠ 55) => (f1 i hi).trans (F i hi)
  refine h_s rfl ?_
  refine h_gf rfl rfl rfl a54 rfl ?_
  refine h_s rfl ?_
  refine h_k (y := 7) rfl rfl ?_
  refine h_c rfl (m_at n 7 rfl rfl) ?_
  refine h_s rfl ?_
  refine h_is (2 + 8 * n + 7) rfl a55 (by first | omega | (simp only [newS, List.length_set]; omega)) rfl (by first | omega | (simp only [newS, List.length_set]; omega)) (fun w1 e1 f1 => ?_)
  have a54 := (f1 54 (by decide)).trans a54
  have a55 := e1
  have F := fun i (hi : i ≠ 55) => (f1 i hi).trans (F i hi)
  refine h_s rfl ?_
  refine h_gf rfl rfl rfl a54 rfl ?_
  refine h_k (y := 0) rfl rfl ?_
  refine h_s rfl ?_
  refine h_ia 0 rfl a55 (by first | omega | (simp only [newS, List.length_set]; omega)) rfl (by first | omega | (simp only [newS, List.length_set]; omega)) ?_
  refine h_t (show _ = nI n by rw [gD_ne (by omega), gD_ne (by omega), gD_ne (by omega), gD_ne (by omega), gD_ne (by omega), gD_ne (by omega), gD_ne (by omega), gD_ne (by omega)]; exact h0) ?_
  refine h_k (y := 1) rfl rfl ?_
  refine h_s rfl ?_
  refine h_t (nI_1 n) ?_
  refine h_is (0) rfl a55 (by first | omega | (simp only [newS, List.length_set]; omega)) rfl (by first | omega | (simp only [newS, List.length_set]; omega)) (fun w1 e1 f1 => ?_)
  have a54 := (f1 54 (by decide)).trans a54
  have a55 := e1
  have F := fun i (hi : i ≠ 55) => (f1 i hi).trans (F i hi)
  refine h_s rfl ?_
  exact h_ri rfl rfl ⟨rfl, T0.fr55 a55 ((newS_l ..).trans hl) (newS_0 hl) (by omega) F, F⟩
theorem wd_y {j : Nat} (hj : j < 17) (h : lg_cmp (l6N (if false = true then 0 else wV tp tn i)) (l6N (wdN j)) = 0) : tkI tp tn i = j := by
  have h1 := (wd_enc j hj).2.2.1
  rw [cmp_0, if_neg (by decide), l6N_eq wV_lt (by omega)] at h
  exact (wV_is hj).mp h
theorem wd_n {j : Nat} (hj : j < 17) (h : ¬ lg_cmp (l6N (if false = true then 0 else wV tp tn i)) (l6N (wdN j)) = 0) : ¬ tkI tp tn i = j := by
  have h1 := (wd_enc j hj).2.2.1
  intro q
  refine h ?_
  rw [cmp_0, if_neg (by decide), l6N_eq wV_lt (by omega)]
  exact (wV_is hj).mpr q
theorem wd_w {j : Nat} (hj : j < 17) : ¬ lg_cmp (l6N (if true = true then 0 else wV tp tn i)) (l6N (wdN j)) = 0 := by
  have h1 := (wd_enc j hj).2.2
  rw [cmp_0, if_pos rfl, l6N_eq (by decide) (by omega)]
  omega
set_option maxRecDepth 100000 in
set_option maxHeartbeats 4000000 in
theorem m_kindHere (T : MTk w s n kp tp tn i vl false) : ab_M X kX6_kindHere [.ref 54] w (some (.int (if tkI tp tn i < 7 then nI (tkI tp tn i) else -1))) w := by
  have T1 := T
  have T0 := T
  obtain ⟨a54, a55, a60, hl, h0, hn, tl, htn⟩ := T
  show ab_G X kX6_kindHere 0 [some (.ref 54), none, none] [] w _ _
  refine ab_s rfl ?_
  refine ab_cv rfl rfl rfl a54 rfl rfl (m_word T1) ?_
  refine ab_n (st2 := [_]) rfl ?_
  iterate 4 refine ab_s rfl ?_
  refine j1_ne rfl rfl (fun h10 => ?_) (fun h10 => ?_)
  · have k10 := wd_n (tp := tp) (tn := tn) (j := 0) (by decide) h10
    iterate 3 refine ab_s rfl ?_
    refine j1_ne rfl rfl (fun h22 => ?_) (fun h22 => ?_)
    · have k22 := wd_n (tp := tp) (tn := tn) (j := 1) (by decide) h22
      iterate 3 refine ab_s rfl ?_
      refine j1_ne rfl rfl (fun h34 => ?_) (fun h34 => ?_)
      · have k34 := wd_n (tp := tp) (tn := tn) (j := 2) (by decide) h34
        iterate 3 refine ab_s rfl ?_
        refine j1_ne rfl rfl (fun h46 => ?_) (fun h46 => ?_)
        · have k46 := wd_n (tp := tp) (tn := tn) (j := 3) (by decide) h46
          iterate 3 refine ab_s rfl ?_
          refine j1_ne rfl rfl (fun h58 => ?_) (fun h58 => ?_)
          · have k58 := wd_n (tp := tp) (tn := tn) (j := 4) (by decide) h58
            iterate 3 refine ab_s rfl ?_
            refine j1_ne rfl rfl (fun h70 => ?_) (fun h70 => ?_)
            · have k70 := wd_n (tp := tp) (tn := tn) (j := 5) (by decide) h70
              iterate 3 refine ab_s rfl ?_
              refine j1_ne rfl rfl (fun h82 => ?_) (fun h82 => ?_)
              · have k82 := wd_n (tp := tp) (tn := tn) (j := 6) (by decide) h82
                refine ab_k (y := (-1)) rfl rfl ?_
                exact ab_ri rfl (by rw [if_neg (by omega)])
              · have k82 := wd_y (tp := tp) (tn := tn) (j := 6) (by decide) h82
                refine ab_k (y := 6) rfl rfl ?_
                refine ab_s rfl ?_
                exact ab_ri rfl (by rw [if_pos (by omega), k82]; rfl)
            · have k70 := wd_y (tp := tp) (tn := tn) (j := 5) (by decide) h70
              refine ab_k (y := 5) rfl rfl ?_
              refine ab_s rfl ?_
              exact ab_ri rfl (by rw [if_pos (by omega), k70]; rfl)
          · have k58 := wd_y (tp := tp) (tn := tn) (j := 4) (by decide) h58
            refine ab_k (y := 4) rfl rfl ?_
            refine ab_s rfl ?_
            exact ab_ri rfl (by rw [if_pos (by omega), k58]; rfl)
        · have k46 := wd_y (tp := tp) (tn := tn) (j := 3) (by decide) h46
          refine ab_k (y := 3) rfl rfl ?_
          refine ab_s rfl ?_
          exact ab_ri rfl (by rw [if_pos (by omega), k46]; rfl)
      · have k34 := wd_y (tp := tp) (tn := tn) (j := 2) (by decide) h34
        refine ab_k (y := 2) rfl rfl ?_
        refine ab_s rfl ?_
        exact ab_ri rfl (by rw [if_pos (by omega), k34]; rfl)
    · have k22 := wd_y (tp := tp) (tn := tn) (j := 1) (by decide) h22
      refine ab_k (y := 1) rfl rfl ?_
      refine ab_s rfl ?_
      exact ab_ri rfl (by rw [if_pos (by omega), k22]; rfl)
  · have k10 := wd_y (tp := tp) (tn := tn) (j := 0) (by decide) h10
    refine ab_k (y := 0) rfl rfl ?_
    refine ab_s rfl ?_
    exact ab_ri rfl (by rw [if_pos (by omega), k10]; rfl)
set_option maxRecDepth 100000 in
set_option maxHeartbeats 4000000 in
theorem m_kindHereW (T : MTk w s n kp tp tn i vl true) : ab_M X kX6_kindHere [.ref 54] w (some (.int (-1))) w := by
  have T1 := T
  have T0 := T
  obtain ⟨a54, a55, a60, hl, h0, hn, tl, htn⟩ := T
  show ab_G X kX6_kindHere 0 [some (.ref 54), none, none] [] w _ _
  refine ab_s rfl ?_
  refine ab_cv rfl rfl rfl a54 rfl rfl (m_word T1) ?_
  refine ab_n (st2 := [_]) rfl ?_
  iterate 4 refine ab_s rfl ?_
  refine j1_ne rfl rfl (fun h10 => ?_) (fun h10 => absurd h10 (wd_w (j := 0) (by decide)))
  iterate 3 refine ab_s rfl ?_
  refine j1_ne rfl rfl (fun h22 => ?_) (fun h22 => absurd h22 (wd_w (j := 1) (by decide)))
  iterate 3 refine ab_s rfl ?_
  refine j1_ne rfl rfl (fun h34 => ?_) (fun h34 => absurd h34 (wd_w (j := 2) (by decide)))
  iterate 3 refine ab_s rfl ?_
  refine j1_ne rfl rfl (fun h46 => ?_) (fun h46 => absurd h46 (wd_w (j := 3) (by decide)))
  iterate 3 refine ab_s rfl ?_
  refine j1_ne rfl rfl (fun h58 => ?_) (fun h58 => absurd h58 (wd_w (j := 4) (by decide)))
  iterate 3 refine ab_s rfl ?_
  refine j1_ne rfl rfl (fun h70 => ?_) (fun h70 => absurd h70 (wd_w (j := 5) (by decide)))
  iterate 3 refine ab_s rfl ?_
  refine j1_ne rfl rfl (fun h82 => ?_) (fun h82 => absurd h82 (wd_w (j := 6) (by decide)))
  refine ab_k (y := (-1)) rfl rfl ?_
  exact ab_ri rfl rfl
/-- what an item leaves: good, and on; or wrong at the token that can't stand there -/
def MI (w : ab_W) (kp : Bool) (tp : List Int32) (tn : Nat) (p : PR) (v : Option Value) (w1 : ab_W) : Prop := v = none ∧ ((p.ok = true ∧ ∃ vl, MTk w1 p.s p.n kp tp tn p.i vl false) ∨ ((p.ok = false ∨ tsN tp tn (tP tp tn p.i) = 4) ∧ ∃ s' n' vl, MTk w1 s' n' kp tp tn p.i vl true)) ∧ ∀ j, j ≠ 54 → j ≠ 55 → w1[j]? = w[j]?
/-- wrong, and still so -/
def MJ (w : ab_W) (kp : Bool) (tp : List Int32) (tn i : Nat) (v : Option Value) (w1 : ab_W) : Prop := v = none ∧ (∃ s' n' vl, MTk w1 s' n' kp tp tn i vl true) ∧ ∀ j, j ≠ 54 → j ≠ 55 → w1[j]? = w[j]?
theorem MI.bad {p : PR} {v : Option Value} {w0 : ab_W} (h : MJ w1 kp tp tn i v w) (hp : p.ok = false ∨ tsN tp tn (tP tp tn p.i) = 4) (hi : p.i = i) (F : ∀ j, j ≠ 54 → j ≠ 55 → w1[j]? = w0[j]?) : MI w0 kp tp tn p v w := ⟨h.1, Or.inr ⟨hp, by rw [hi]; exact h.2.1⟩, fun j h1 h2 => (h.2.2 j h1 h2).trans (F j h1 h2)⟩
set_option maxRecDepth 100000 in
set_option maxHeartbeats 4000000 in
theorem m_house191W (T : MTk w s n kp tp tn i vl true) {x1 x2 : Option Value} : ab_H X kX6_houseItem 191 [some (.ref 54), x1, x2] [] w (MJ w kp tp tn i) := by
  have F : ∀ j, j ≠ 54 → j ≠ 55 → w[j]? = w[j]? := fun _ _ _ => rfl
  have T1 := T
  obtain ⟨a54, a55, a60, hl, h0, hn, tl, htn⟩ := id T
  refine h_s rfl ?_
  refine h_cv rfl rfl rfl a54 rfl rfl (m_word T1) ?_
  refine h_n (st2 := [_]) rfl ?_
  iterate 2 refine h_s rfl ?_
  refine h1_ne rfl rfl (fun h199 => ?_) (fun h199 => absurd h199 (wd_w (j := 11) (by decide)))
  exact h_r rfl ⟨rfl, ⟨_, _, _, T⟩, F⟩
set_option maxRecDepth 100000 in
set_option maxHeartbeats 4000000 in
theorem m_house113W (T : MTk w s n kp tp tn i vl true) {x1 x2 : Option Value} : ab_H X kX6_houseItem 113 [some (.ref 54), x1, x2] [] w (MJ w kp tp tn i) := by
  have F : ∀ j, j ≠ 54 → j ≠ 55 → w[j]? = w[j]? := fun _ _ _ => rfl
  have T1 := T
  obtain ⟨a54, a55, a60, hl, h0, hn, tl, htn⟩ := id T
  refine h_s rfl ?_
  refine h_cv rfl rfl rfl a54 rfl rfl (m_word T1) ?_
  refine h_n (st2 := [_]) rfl ?_
  iterate 2 refine h_s rfl ?_
  refine h1_ne rfl rfl (fun h121 => ?_) (fun h121 => absurd h121 (wd_w (j := 9) (by decide)))
  exact m_house191W T
set_option maxRecDepth 100000 in
set_option maxHeartbeats 4000000 in
theorem m_house191 (T : MTk w s n kp tp tn i vl false) {x1 : Option Value} {h : Nat} (hh : h < n) : ab_H X kX6_houseItem 191 [some (.ref 54), x1, some (.int (nI h))] [] w (MI w kp tp tn (rdSleep tp tn h i s n)) := by
  have F : ∀ j, j ≠ 54 → j ≠ 55 → w[j]? = w[j]? := fun _ _ _ => rfl
  have T1 := T
  obtain ⟨a54, a55, a60, hl, h0, hn, tl, htn⟩ := id T
  refine h_s rfl ?_
  refine h_cv rfl rfl rfl a54 rfl rfl (m_word T1) ?_
  refine h_n (st2 := [_]) rfl ?_
  iterate 2 refine h_s rfl ?_
  refine h1_ne rfl rfl (fun h199 => ?_) (fun h199 => ?_)
  · have k199 := wd_n (tp := tp) (tn := tn) (j := 11) (by decide) h199
    have ep := show rdSleep tp tn h i s n = _ from by
      unfold rdSleep
      rw [if_neg (show ¬ tkW tp tn i 11 = true from fun q => k199 (of_decide_eq_true q))]
    rw [ep]
    exact h_r rfl ⟨rfl, Or.inl ⟨rfl, _, T⟩, F⟩
  · have k199 := wd_y (tp := tp) (tn := tn) (j := 11) (by decide) h199
    refine h_s rfl ?_
    refine h_k (y := 1) rfl rfl ?_
    refine hq_v rfl rfl rfl a54 rfl rfl (m_wants T1 true) (fun v11 w11 q11 => ?_)
    obtain ⟨rfl, T, g11⟩ := q11
    replace T := (T.resolve_right (fun q => by cases q.1)).2
    have F := fun j h1 h2 => (g11 j h1).trans (F j h1 h2)
    have T1 := T
    obtain ⟨a54, a55, a60, hl, h0, hn, tl, htn⟩ := id T
    refine h_n (st2 := []) rfl ?_
    refine h_s rfl ?_
    refine h_k (y := 0) rfl rfl ?_
    refine h_k (y := 9) rfl rfl ?_
    refine hq_v rfl rfl rfl a54 rfl rfl (m_number T1 (b := 10) (by omega) (by decide)) (fun v12 w12 q12 => ?_)
    obtain ⟨rfl, T, g12⟩ := q12
    have F := fun j h1 h2 => (g12 j h1).trans (F j h1 h2)
    rcases T with ⟨k12, T⟩ | ⟨k12, vl1, T⟩
    · have T1 := T
      obtain ⟨a54, a55, a60, hl, h0, hn, tl, htn⟩ := id T
      refine h_n (st2 := []) rfl ?_
      refine h_s rfl ?_
      refine h_gf rfl rfl rfl a54 rfl ?_
      refine h_s rfl ?_
      refine h_k (y := 6) rfl rfl ?_
      refine h_c rfl (m_at h 6 rfl rfl) ?_
      refine h_n (st2 := [_, _]) rfl ?_
      refine h_s rfl ?_
      refine h_gf rfl rfl rfl a54 rfl ?_
      refine h_is (2 + 8 * h + 6) rfl a55 (by omega) rfl (by omega) (fun w13 e13 f13 => ?_)
      replace T := MT.fr55 T e13 (by rw [List.length_set]; exact hl) (by rw [gD_ne (by omega)]; exact h0) hn f13
      have F := fun j h1 h2 => (f13 j h2).trans (F j h1 h2)
      have T : MTk _ _ _ _ _ _ _ _ _ := T
      have T1 := T
      obtain ⟨a54, a55, a60, hl, h0, hn, tl, htn⟩ := id T
      have ep := show rdSleep tp tn h i s n = _ from by
        unfold rdSleep
        rw [if_pos (show tkW tp tn i 11 = true from decide_eq_true k199), if_pos k12]
      rw [ep]
      exact h_r rfl ⟨rfl, Or.inl ⟨rfl, _, T⟩, F⟩
    · have T1 := T
      obtain ⟨a54, a55, a60, hl, h0, hn, tl, htn⟩ := id T
      refine h_n (st2 := []) rfl ?_
      refine h_s rfl ?_
      refine h_gf rfl rfl rfl a54 rfl ?_
      refine h_s rfl ?_
      refine h_k (y := 6) rfl rfl ?_
      refine h_c rfl (m_at h 6 rfl rfl) ?_
      refine h_n (st2 := [_, _]) rfl ?_
      refine h_s rfl ?_
      refine h_gf rfl rfl rfl a54 rfl ?_
      refine h_is (2 + 8 * h + 6) rfl a55 (by omega) rfl (by omega) (fun w13 e13 f13 => ?_)
      replace T := MT.fr55 T e13 (by rw [List.length_set]; exact hl) (by rw [gD_ne (by omega)]; exact h0) hn f13
      have F := fun j h1 h2 => (f13 j h2).trans (F j h1 h2)
      have T : MTk _ _ _ _ _ _ _ _ _ := T
      have T1 := T
      obtain ⟨a54, a55, a60, hl, h0, hn, tl, htn⟩ := id T
      have ep := show rdSleep tp tn h i s n = _ from by
        unfold rdSleep
        rw [if_pos (show tkW tp tn i 11 = true from decide_eq_true k199), if_neg (by rw [k12]; decide)]
      rw [ep]
      exact h_r rfl ⟨rfl, Or.inr ⟨Or.inl rfl, _, _, _, T⟩, F⟩
theorem MI.tr {p : PR} {v : Option Value} {w0 : ab_W} (h : MI w1 kp tp tn p v w) (F : ∀ j, j ≠ 54 → j ≠ 55 → w1[j]? = w0[j]?) : MI w0 kp tp tn p v w := ⟨h.1, h.2.1, fun j h1 h2 => (h.2.2 j h1 h2).trans (F j h1 h2)⟩
theorem MJ.tr {v : Option Value} {w0 : ab_W} (h : MJ w1 kp tp tn i v w) (F : ∀ j, j ≠ 54 → j ≠ 55 → w1[j]? = w0[j]?) : MJ w0 kp tp tn i v w := ⟨h.1, h.2.1, fun j h1 h2 => (h.2.2 j h1 h2).trans (F j h1 h2)⟩
set_option maxRecDepth 100000 in
set_option maxHeartbeats 4000000 in
theorem m_house113 (T : MTk w s n kp tp tn i vl false) {x1 : Option Value} {h : Nat} (hh : h < n) : ab_H X kX6_houseItem 113 [some (.ref 54), x1, some (.int (nI h))] [] w (MI w kp tp tn ((rdHours tp tn h i s n).on (rdSleep tp tn h))) := by
  have F : ∀ j, j ≠ 54 → j ≠ 55 → w[j]? = w[j]? := fun _ _ _ => rfl
  have T1 := T
  obtain ⟨a54, a55, a60, hl, h0, hn, tl, htn⟩ := id T
  refine h_s rfl ?_
  refine h_cv rfl rfl rfl a54 rfl rfl (m_word T1) ?_
  refine h_n (st2 := [_]) rfl ?_
  iterate 2 refine h_s rfl ?_
  refine h1_ne rfl rfl (fun h121 => ?_) (fun h121 => ?_)
  · have k121 := wd_n (tp := tp) (tn := tn) (j := 9) (by decide) h121
    have ep := show rdHours tp tn h i s n = _ from by
      unfold rdHours
      rw [if_neg (show ¬ tkW tp tn i 9 = true from fun q => k121 (of_decide_eq_true q))]
    rw [ep, on_t rfl]
    obtain ⟨v6, w6, q6, r6⟩ := m_house191 (X := X) (x1 := x1) T hh
    exact ⟨v6, w6, q6, r6.tr F⟩
  · have k121 := wd_y (tp := tp) (tn := tn) (j := 9) (by decide) h121
    refine h_s rfl ?_
    refine h_k (y := 1) rfl rfl ?_
    refine hq_v rfl rfl rfl a54 rfl rfl (m_wants T1 true) (fun v16 w16 q16 => ?_)
    obtain ⟨rfl, T, g16⟩ := q16
    replace T := (T.resolve_right (fun q => by cases q.1)).2
    have F := fun j h1 h2 => (g16 j h1).trans (F j h1 h2)
    have T1 := T
    obtain ⟨a54, a55, a60, hl, h0, hn, tl, htn⟩ := id T
    refine h_n (st2 := []) rfl ?_
    refine h_s rfl ?_
    refine h_k (y := 0) rfl rfl ?_
    refine h_k (y := 23) rfl rfl ?_
    refine hq_v rfl rfl rfl a54 rfl rfl (m_number T1 (b := 24) (by omega) (by decide)) (fun v17 w17 q17 => ?_)
    obtain ⟨rfl, T, g17⟩ := q17
    have F := fun j h1 h2 => (g17 j h1).trans (F j h1 h2)
    rcases T with ⟨k17, T⟩ | ⟨k17, vl1, T⟩
    · have T1 := T
      obtain ⟨a54, a55, a60, hl, h0, hn, tl, htn⟩ := id T
      refine h_n (st2 := []) rfl ?_
      refine h_s rfl ?_
      refine h_gf rfl rfl rfl a54 rfl ?_
      refine h_s rfl ?_
      refine h_k (y := 3) rfl rfl ?_
      refine h_c rfl (m_at h 3 rfl rfl) ?_
      refine h_n (st2 := [_, _]) rfl ?_
      refine h_s rfl ?_
      refine h_gf rfl rfl rfl a54 rfl ?_
      refine h_is (2 + 8 * h + 3) rfl a55 (by omega) rfl (by omega) (fun w14 e14 f14 => ?_)
      replace T := MT.fr55 T e14 (by rw [List.length_set]; exact hl) (by rw [gD_ne (by omega)]; exact h0) hn f14
      have F := fun j h1 h2 => (f14 j h2).trans (F j h1 h2)
      have T : MTk _ _ _ _ _ _ _ _ _ := T
      have T1 := T
      obtain ⟨a54, a55, a60, hl, h0, hn, tl, htn⟩ := id T
      iterate 2 refine h_s rfl ?_
      refine h_cv rfl rfl rfl a54 rfl rfl (m_word T1) ?_
      refine h_n (st2 := [_, _]) rfl ?_
      iterate 2 refine h_s rfl ?_
      refine h1_ne rfl rfl (fun h159 => ?_) (fun h159 => ?_)
      · have k159 := wd_n (tp := tp) (tn := tn) (j := 10) (by decide) h159
        refine h_k (y := 0) rfl rfl ?_
        refine hq_v rfl rfl rfl a54 rfl rfl (m_wants T1 false) (fun v18 w18 q18 => ?_)
        obtain ⟨rfl, T, g18⟩ := q18
        replace T := (T.resolve_left (fun q => by cases q.1)).2
        have F := fun j h1 h2 => (g18 j h1).trans (F j h1 h2)
        have T1 := T
        obtain ⟨a54, a55, a60, hl, h0, hn, tl, htn⟩ := id T
        refine h_n (st2 := []) rfl ?_
        refine h_s rfl ?_
        refine h_k (y := 0) rfl rfl ?_
        refine h_k (y := 23) rfl rfl ?_
        refine hq_v rfl rfl rfl a54 rfl rfl (m_numberW T1 _ _) (fun v19 w19 q19 => ?_)
        obtain ⟨rfl, rfl⟩ := q19
        refine h_n (st2 := []) rfl ?_
        refine h_s rfl ?_
        refine h_gf rfl rfl rfl a54 rfl ?_
        refine h_s rfl ?_
        refine h_k (y := 4) rfl rfl ?_
        refine h_c rfl (m_at h 4 rfl rfl) ?_
        refine h_n (st2 := [_, _]) rfl ?_
        refine h_s rfl ?_
        refine h_gf rfl rfl rfl a54 rfl ?_
        refine h_is (2 + 8 * h + 4) rfl a55 (by omega) rfl (by omega) (fun w15 e15 f15 => ?_)
        replace T := MT.fr55 T e15 (by rw [List.length_set]; exact hl) (by rw [gD_ne (by omega)]; exact h0) hn f15
        have F := fun j h1 h2 => (f15 j h2).trans (F j h1 h2)
        have T : MTk _ _ _ _ _ _ _ _ _ := T
        have T1 := T
        obtain ⟨a54, a55, a60, hl, h0, hn, tl, htn⟩ := id T
        have ep := show rdHours tp tn h i s n = _ from by
          unfold rdHours
          rw [if_pos (show tkW tp tn i 9 = true from decide_eq_true k121), if_pos (show tkN tp tn (i + 1) 24 = true from k17), if_neg (show ¬ tkW tp tn (i + 2) 10 = true from fun q => k159 (of_decide_eq_true q))]
        rw [ep, on_f rfl]
        obtain ⟨v6, w6, q6, r6⟩ := m_house191W (X := X) T
        exact ⟨v6, w6, q6, MI.bad r6 (Or.inl rfl) rfl F⟩
      · have k159 := wd_y (tp := tp) (tn := tn) (j := 10) (by decide) h159
        refine h_k (y := 1) rfl rfl ?_
        refine h_s rfl ?_
        refine hq_v rfl rfl rfl a54 rfl rfl (m_wants T1 true) (fun v20 w20 q20 => ?_)
        obtain ⟨rfl, T, g20⟩ := q20
        replace T := (T.resolve_right (fun q => by cases q.1)).2
        have F := fun j h1 h2 => (g20 j h1).trans (F j h1 h2)
        have T1 := T
        obtain ⟨a54, a55, a60, hl, h0, hn, tl, htn⟩ := id T
        refine h_n (st2 := []) rfl ?_
        refine h_s rfl ?_
        refine h_k (y := 0) rfl rfl ?_
        refine h_k (y := 23) rfl rfl ?_
        refine hq_v rfl rfl rfl a54 rfl rfl (m_number T1 (b := 24) (by omega) (by decide)) (fun v21 w21 q21 => ?_)
        obtain ⟨rfl, T, g21⟩ := q21
        have F := fun j h1 h2 => (g21 j h1).trans (F j h1 h2)
        rcases T with ⟨k21, T⟩ | ⟨k21, vl1, T⟩
        · have T1 := T
          obtain ⟨a54, a55, a60, hl, h0, hn, tl, htn⟩ := id T
          refine h_n (st2 := []) rfl ?_
          refine h_s rfl ?_
          refine h_gf rfl rfl rfl a54 rfl ?_
          refine h_s rfl ?_
          refine h_k (y := 4) rfl rfl ?_
          refine h_c rfl (m_at h 4 rfl rfl) ?_
          refine h_n (st2 := [_, _]) rfl ?_
          refine h_s rfl ?_
          refine h_gf rfl rfl rfl a54 rfl ?_
          refine h_is (2 + 8 * h + 4) rfl a55 (by omega) rfl (by omega) (fun w15 e15 f15 => ?_)
          replace T := MT.fr55 T e15 (by rw [List.length_set]; exact hl) (by rw [gD_ne (by omega)]; exact h0) hn f15
          have F := fun j h1 h2 => (f15 j h2).trans (F j h1 h2)
          have T : MTk _ _ _ _ _ _ _ _ _ := T
          have T1 := T
          obtain ⟨a54, a55, a60, hl, h0, hn, tl, htn⟩ := id T
          have ep := show rdHours tp tn h i s n = _ from by
            unfold rdHours
            rw [if_pos (show tkW tp tn i 9 = true from decide_eq_true k121), if_pos (show tkN tp tn (i + 1) 24 = true from k17), if_pos (show tkW tp tn (i + 2) 10 = true from decide_eq_true k159), if_pos (show tkN tp tn (i + 3) 24 = true from k21)]
          rw [ep, on_t rfl]
          obtain ⟨v6, w6, q6, r6⟩ := m_house191 (X := X) (x1 := x1) T hh
          exact ⟨v6, w6, q6, r6.tr F⟩
        · have T1 := T
          obtain ⟨a54, a55, a60, hl, h0, hn, tl, htn⟩ := id T
          refine h_n (st2 := []) rfl ?_
          refine h_s rfl ?_
          refine h_gf rfl rfl rfl a54 rfl ?_
          refine h_s rfl ?_
          refine h_k (y := 4) rfl rfl ?_
          refine h_c rfl (m_at h 4 rfl rfl) ?_
          refine h_n (st2 := [_, _]) rfl ?_
          refine h_s rfl ?_
          refine h_gf rfl rfl rfl a54 rfl ?_
          refine h_is (2 + 8 * h + 4) rfl a55 (by omega) rfl (by omega) (fun w15 e15 f15 => ?_)
          replace T := MT.fr55 T e15 (by rw [List.length_set]; exact hl) (by rw [gD_ne (by omega)]; exact h0) hn f15
          have F := fun j h1 h2 => (f15 j h2).trans (F j h1 h2)
          have T : MTk _ _ _ _ _ _ _ _ _ := T
          have T1 := T
          obtain ⟨a54, a55, a60, hl, h0, hn, tl, htn⟩ := id T
          have ep := show rdHours tp tn h i s n = _ from by
            unfold rdHours
            rw [if_pos (show tkW tp tn i 9 = true from decide_eq_true k121), if_pos (show tkN tp tn (i + 1) 24 = true from k17), if_pos (show tkW tp tn (i + 2) 10 = true from decide_eq_true k159), if_neg (show ¬ tkN tp tn (i + 3) 24 = true from by rw [show tkN tp tn (i + 3) 24 = false from k21]; decide)]
          rw [ep, on_f rfl]
          obtain ⟨v6, w6, q6, r6⟩ := m_house191W (X := X) T
          exact ⟨v6, w6, q6, MI.bad r6 (Or.inl rfl) rfl F⟩
    · have T1 := T
      obtain ⟨a54, a55, a60, hl, h0, hn, tl, htn⟩ := id T
      refine h_n (st2 := []) rfl ?_
      refine h_s rfl ?_
      refine h_gf rfl rfl rfl a54 rfl ?_
      refine h_s rfl ?_
      refine h_k (y := 3) rfl rfl ?_
      refine h_c rfl (m_at h 3 rfl rfl) ?_
      refine h_n (st2 := [_, _]) rfl ?_
      refine h_s rfl ?_
      refine h_gf rfl rfl rfl a54 rfl ?_
      refine h_is (2 + 8 * h + 3) rfl a55 (by omega) rfl (by omega) (fun w14 e14 f14 => ?_)
      replace T := MT.fr55 T e14 (by rw [List.length_set]; exact hl) (by rw [gD_ne (by omega)]; exact h0) hn f14
      have F := fun j h1 h2 => (f14 j h2).trans (F j h1 h2)
      have T : MTk _ _ _ _ _ _ _ _ _ := T
      have T1 := T
      obtain ⟨a54, a55, a60, hl, h0, hn, tl, htn⟩ := id T
      iterate 2 refine h_s rfl ?_
      refine h_cv rfl rfl rfl a54 rfl rfl (m_word T1) ?_
      refine h_n (st2 := [_, _]) rfl ?_
      iterate 2 refine h_s rfl ?_
      refine h1_ne rfl rfl (fun h159 => ?_) (fun h159 => absurd h159 (wd_w (j := 10) (by decide)))
      refine h_k (y := 0) rfl rfl ?_
      refine hq_v rfl rfl rfl a54 rfl rfl (m_wantsW T1 0) (fun v22 w22 q22 => ?_)
      obtain ⟨rfl, T, g22⟩ := q22
      have F := fun j h1 h2 => (g22 j h1).trans (F j h1 h2)
      have T1 := T
      obtain ⟨a54, a55, a60, hl, h0, hn, tl, htn⟩ := id T
      refine h_n (st2 := []) rfl ?_
      refine h_s rfl ?_
      refine h_k (y := 0) rfl rfl ?_
      refine h_k (y := 23) rfl rfl ?_
      refine hq_v rfl rfl rfl a54 rfl rfl (m_numberW T1 _ _) (fun v23 w23 q23 => ?_)
      obtain ⟨rfl, rfl⟩ := q23
      refine h_n (st2 := []) rfl ?_
      refine h_s rfl ?_
      refine h_gf rfl rfl rfl a54 rfl ?_
      refine h_s rfl ?_
      refine h_k (y := 4) rfl rfl ?_
      refine h_c rfl (m_at h 4 rfl rfl) ?_
      refine h_n (st2 := [_, _]) rfl ?_
      refine h_s rfl ?_
      refine h_gf rfl rfl rfl a54 rfl ?_
      refine h_is (2 + 8 * h + 4) rfl a55 (by omega) rfl (by omega) (fun w15 e15 f15 => ?_)
      replace T := MT.fr55 T e15 (by rw [List.length_set]; exact hl) (by rw [gD_ne (by omega)]; exact h0) hn f15
      have F := fun j h1 h2 => (f15 j h2).trans (F j h1 h2)
      have T : MTk _ _ _ _ _ _ _ _ _ := T
      have T1 := T
      obtain ⟨a54, a55, a60, hl, h0, hn, tl, htn⟩ := id T
      have ep := show rdHours tp tn h i s n = _ from by
        unfold rdHours
        rw [if_pos (show tkW tp tn i 9 = true from decide_eq_true k121), if_neg (show ¬ tkN tp tn (i + 1) 24 = true from by rw [show tkN tp tn (i + 1) 24 = false from k17]; decide)]
      rw [ep, on_f rfl]
      obtain ⟨v6, w6, q6, r6⟩ := m_house191W (X := X) T
      exact ⟨v6, w6, q6, MI.bad r6 (Or.inl rfl) rfl F⟩
theorem st_l2 {h : Nat} (hh : h < 8) (h0 : ¬ h = 0) : nI h - 1 = nI (h - 1) := (show ∀ h, h < 8 → ¬ h = 0 → nI h - 1 = nI (h - 1) by decide) h hh h0
set_option maxRecDepth 100000 in
set_option maxHeartbeats 4000000 in
theorem m_houseItem (T : MTk w s n kp tp tn i vl false) {k : Nat} (hk : tkI tp tn i = k) (hk7 : k < 7) : ab_Q X kX6_houseItem [.ref 54, .int (nI k)] w (MI w kp tp tn (rdHouse tp tn k i s n)) := by
  have F : ∀ j, j ≠ 54 → j ≠ 55 → w[j]? = w[j]? := fun _ _ _ => rfl
  have T1 := T
  obtain ⟨a54, a55, a60, hl, h0, hn, tl, htn⟩ := id T
  show ab_H X kX6_houseItem 0 [some (.ref 54), some (.int (nI k)), none] [] w _
  iterate 2 refine h_s rfl ?_
  refine h_gf rfl rfl rfl a54 rfl ?_
  refine h_k (y := 0) rfl rfl ?_
  refine h_ia (0) rfl a55 (by omega) rfl (by omega) ?_
  refine h_t h0 ?_
  refine h_k (y := 8) rfl rfl ?_
  refine hN_ge (b := 8) rfl rfl rfl rfl (by omega) (by omega) (fun h9 => ?_) (fun h9 => ?_)
  · refine h_k (y := 0) rfl rfl ?_
    refine hq_v rfl rfl rfl a54 rfl rfl (m_wants T1 false) (fun v26 w26 q26 => ?_)
    obtain ⟨rfl, T, g26⟩ := q26
    replace T := (T.resolve_left (fun q => by cases q.1)).2
    have F := fun j h1 h2 => (g26 j h1).trans (F j h1 h2)
    have T1 := T
    obtain ⟨a54, a55, a60, hl, h0, hn, tl, htn⟩ := id T
    refine h_n (st2 := []) rfl ?_
    refine h_s rfl ?_
    refine h_gf rfl rfl rfl a54 rfl ?_
    refine hz_eq rfl rfl (fun h24 => absurd (show (true = false) from (show _ = true from rfl).symm.trans h24) (by decide)) (fun h24 => ?_)
    rw [show rdHouse tp tn k i s n = ⟨false, i, s, n⟩ from if_neg (by omega)]
    exact h_r rfl ⟨rfl, Or.inr ⟨Or.inl rfl, _, _, _, T⟩, F⟩
  · refine h_k (y := 1) rfl rfl ?_
    refine h_s rfl ?_
    refine hq_v rfl rfl rfl a54 rfl rfl (m_wants T1 true) (fun v27 w27 q27 => ?_)
    obtain ⟨rfl, T, g27⟩ := q27
    replace T := (T.resolve_right (fun q => by cases q.1)).2
    have F := fun j h1 h2 => (g27 j h1).trans (F j h1 h2)
    have T1 := T
    obtain ⟨a54, a55, a60, hl, h0, hn, tl, htn⟩ := id T
    refine h_n (st2 := []) rfl ?_
    refine h_s rfl ?_
    refine h_gf rfl rfl rfl a54 rfl ?_
    refine hz_eq rfl rfl (fun h24 => ?_) (fun h24 => absurd (show (true = false) from h24.symm.trans (show _ = false from rfl)) (by decide))
    iterate 2 refine h_s rfl ?_
    refine hq_v rfl rfl rfl a54 rfl rfl (m_newH T1 (nI k) (by omega)) (fun v8 w8 q8 => ?_)
    obtain ⟨rfl, T, g8⟩ := q8
    have F := fun j h1 h2 => (g8 j h2).trans (F j h1 h2)
    have T : MTk _ _ _ _ _ _ _ _ _ := T
    have T1 := T
    obtain ⟨a54, a55, a60, hl, h0, hn, tl, htn⟩ := id T
    refine h_n (st2 := [_]) rfl ?_
    iterate 2 refine h_s rfl ?_
    refine h_cv rfl rfl rfl a54 rfl rfl (m_word T1) ?_
    refine h_n (st2 := [_]) rfl ?_
    iterate 2 refine h_s rfl ?_
    refine h1_ne rfl rfl (fun h42 => ?_) (fun h42 => ?_)
    · have k42 := wd_n (tp := tp) (tn := tn) (j := 7) (by decide) h42
      refine h_s rfl ?_
      refine h_cv rfl rfl rfl a54 rfl rfl (m_word T1) ?_
      refine h_n (st2 := [_]) rfl ?_
      iterate 2 refine h_s rfl ?_
      refine h1_ne rfl rfl (fun h82 => ?_) (fun h82 => ?_)
      · have k82 := wd_n (tp := tp) (tn := tn) (j := 8) (by decide) h82
        have ep : rdStair tp tn n (i + 1) (newS s n (nI k)) (n + 1) = ⟨true, i + 1, (newS s n (nI k)), n + 1⟩ := by
          unfold rdStair
          rw [if_neg (show ¬ tkW tp tn (i + 1) 7 = true from fun q => k42 (of_decide_eq_true q)), if_neg (show ¬ tkW tp tn (i + 1) 8 = true from fun q => k82 (of_decide_eq_true q))]
        rw [show rdHouse tp tn k i s n = (rdHours tp tn n (i + 1) ((newS s n (nI k))) (n + 1)).on (rdSleep tp tn n) from by unfold rdHouse; rw [if_pos (by omega), ep]; rfl]
        obtain ⟨v6, w6, q6, r6⟩ := m_house113 (X := X) (x1 := some (.int (nI k))) (h := n) T (by omega)
        exact ⟨v6, w6, q6, r6.tr F⟩
      · have k82 := wd_y (tp := tp) (tn := tn) (j := 8) (by decide) h82
        iterate 2 refine h_s rfl ?_
        refine h_k (y := 7) rfl rfl ?_
        refine hN_ge (b := 7) rfl rfl rfl rfl (by omega) (by omega) (fun h89 => ?_) (fun h89 => ?_)
        · refine h_k (y := 0) rfl rfl ?_
          refine hq_v rfl rfl rfl a54 rfl rfl (m_wants T1 false) (fun v28 w28 q28 => ?_)
          obtain ⟨rfl, T, g28⟩ := q28
          replace T := (T.resolve_left (fun q => by cases q.1)).2
          have F := fun j h1 h2 => (g28 j h1).trans (F j h1 h2)
          have T1 := T
          obtain ⟨a54, a55, a60, hl, h0, hn, tl, htn⟩ := id T
          refine h_n (st2 := []) rfl ?_
          refine h_s rfl ?_
          refine h_gf rfl rfl rfl a54 rfl ?_
          refine h_s rfl ?_
          refine h_k (y := 1) rfl rfl ?_
          refine h_c rfl (m_at n 1 rfl rfl) ?_
          refine h_n (st2 := [_, _]) rfl ?_
          refine h_s rfl ?_
          refine h_k (y := 1) rfl rfl ?_
          refine h_Nadd (b := 1) rfl rfl rfl ?_
          refine h_is (2 + 8 * n + 1) rfl a55 (by omega) rfl (by omega) (fun w25 e25 f25 => ?_)
          replace T := MT.fr55 T e25 (by rw [List.length_set]; exact hl) (by rw [gD_ne (by omega)]; exact h0) hn f25
          have F := fun j h1 h2 => (f25 j h2).trans (F j h1 h2)
          have T : MTk _ _ _ _ _ _ _ _ _ := T
          have T1 := T
          obtain ⟨a54, a55, a60, hl, h0, hn, tl, htn⟩ := id T
          have ep : rdStair tp tn n (i + 1) (newS s n (nI k)) (n + 1) = ⟨false, i + 1, (newS s n (nI k)), n + 1⟩ := by
            unfold rdStair
            rw [if_neg (show ¬ tkW tp tn (i + 1) 7 = true from fun q => k42 (of_decide_eq_true q)), if_pos (show tkW tp tn (i + 1) 8 = true from decide_eq_true k82), if_pos (by omega)]
          rw [show rdHouse tp tn k i s n = ⟨false, i + 1, (newS s n (nI k)), n + 1⟩ from by unfold rdHouse; rw [if_pos (by omega), ep]; rfl]
          obtain ⟨v6, w6, q6, r6⟩ := m_house113W (X := X) T
          exact ⟨v6, w6, q6, MI.bad r6 (Or.inl rfl) rfl F⟩
        · refine h_k (y := 1) rfl rfl ?_
          refine h_s rfl ?_
          refine hq_v rfl rfl rfl a54 rfl rfl (m_wants T1 true) (fun v29 w29 q29 => ?_)
          obtain ⟨rfl, T, g29⟩ := q29
          replace T := (T.resolve_right (fun q => by cases q.1)).2
          have F := fun j h1 h2 => (g29 j h1).trans (F j h1 h2)
          have T1 := T
          obtain ⟨a54, a55, a60, hl, h0, hn, tl, htn⟩ := id T
          refine h_n (st2 := []) rfl ?_
          refine h_s rfl ?_
          refine h_gf rfl rfl rfl a54 rfl ?_
          refine h_s rfl ?_
          refine h_k (y := 1) rfl rfl ?_
          refine h_c rfl (m_at n 1 rfl rfl) ?_
          refine h_n (st2 := [_, _]) rfl ?_
          refine h_s rfl ?_
          refine h_k (y := 1) rfl rfl ?_
          refine h_Nadd (b := 1) rfl rfl rfl ?_
          refine h_is (2 + 8 * n + 1) rfl a55 (by omega) rfl (by omega) (fun w25 e25 f25 => ?_)
          replace T := MT.fr55 T e25 (by rw [List.length_set]; exact hl) (by rw [gD_ne (by omega)]; exact h0) hn f25
          have F := fun j h1 h2 => (f25 j h2).trans (F j h1 h2)
          have T : MTk _ _ _ _ _ _ _ _ _ := T
          have T1 := T
          obtain ⟨a54, a55, a60, hl, h0, hn, tl, htn⟩ := id T
          have ep : rdStair tp tn n (i + 1) (newS s n (nI k)) (n + 1) = ⟨true, i + 1 + 1, (newS s n (nI k)).set (2 + 8 * n + 1) (nI (n + 1)), n + 1⟩ := by
            unfold rdStair
            rw [if_neg (show ¬ tkW tp tn (i + 1) 7 = true from fun q => k42 (of_decide_eq_true q)), if_pos (show tkW tp tn (i + 1) 8 = true from decide_eq_true k82), if_neg (by omega)]
          rw [show rdHouse tp tn k i s n = (rdHours tp tn n (i + 1 + 1) ((newS s n (nI k)).set (2 + 8 * n + 1) (nI (n + 1))) (n + 1)).on (rdSleep tp tn n) from by unfold rdHouse; rw [if_pos (by omega), ep]; rfl]
          obtain ⟨v6, w6, q6, r6⟩ := m_house113 (X := X) (x1 := some (.int (nI k))) (h := n) T (by omega)
          exact ⟨v6, w6, q6, r6.tr F⟩
    · have k42 := wd_y (tp := tp) (tn := tn) (j := 7) (by decide) h42
      iterate 2 refine h_s rfl ?_
      refine hM_le rfl rfl rfl rfl (by omega) (fun h47 => ?_) (fun h47 => ?_)
      · refine h_k (y := 0) rfl rfl ?_
        refine hq_v rfl rfl rfl a54 rfl rfl (m_wants T1 false) (fun v30 w30 q30 => ?_)
        obtain ⟨rfl, T, g30⟩ := q30
        replace T := (T.resolve_left (fun q => by cases q.1)).2
        have F := fun j h1 h2 => (g30 j h1).trans (F j h1 h2)
        have T1 := T
        obtain ⟨a54, a55, a60, hl, h0, hn, tl, htn⟩ := id T
        refine h_n (st2 := []) rfl ?_
        refine h_s rfl ?_
        refine h_gf rfl rfl rfl a54 rfl ?_
        refine h_s rfl ?_
        refine h_k (y := 1) rfl rfl ?_
        refine h_c rfl (m_at n 1 rfl rfl) ?_
        refine h_n (st2 := [_, _]) rfl ?_
        refine h_s rfl ?_
        refine h_k (y := 1) rfl rfl ?_
        refine h_s rfl ?_
        refine h_is (2 + 8 * n + 1) rfl a55 (by omega) rfl (by omega) (fun w24 e24 f24 => ?_)
        replace T := MT.fr55 T e24 (by rw [List.length_set]; exact hl) (by rw [gD_ne (by omega)]; exact h0) hn f24
        have F := fun j h1 h2 => (f24 j h2).trans (F j h1 h2)
        have T : MTk _ _ _ _ _ _ _ _ _ := T
        have T1 := T
        obtain ⟨a54, a55, a60, hl, h0, hn, tl, htn⟩ := id T
        refine h_s rfl ?_
        have ep : rdStair tp tn n (i + 1) (newS s n (nI k)) (n + 1) = ⟨false, i + 1, (newS s n (nI k)), n + 1⟩ := by
          unfold rdStair
          rw [if_pos (show tkW tp tn (i + 1) 7 = true from decide_eq_true k42), if_pos (by omega)]
        rw [show rdHouse tp tn k i s n = ⟨false, i + 1, (newS s n (nI k)), n + 1⟩ from by unfold rdHouse; rw [if_pos (by omega), ep]; rfl]
        obtain ⟨v6, w6, q6, r6⟩ := m_house113W (X := X) T
        exact ⟨v6, w6, q6, MI.bad r6 (Or.inl rfl) rfl F⟩
      · refine h_k (y := 1) rfl rfl ?_
        refine h_s rfl ?_
        refine hq_v rfl rfl rfl a54 rfl rfl (m_wants T1 true) (fun v31 w31 q31 => ?_)
        obtain ⟨rfl, T, g31⟩ := q31
        replace T := (T.resolve_right (fun q => by cases q.1)).2
        have F := fun j h1 h2 => (g31 j h1).trans (F j h1 h2)
        have T1 := T
        obtain ⟨a54, a55, a60, hl, h0, hn, tl, htn⟩ := id T
        refine h_n (st2 := []) rfl ?_
        refine h_s rfl ?_
        refine h_gf rfl rfl rfl a54 rfl ?_
        refine h_s rfl ?_
        refine h_k (y := 1) rfl rfl ?_
        refine h_c rfl (m_at n 1 rfl rfl) ?_
        refine h_n (st2 := [_, _]) rfl ?_
        refine h_s rfl ?_
        refine h_k (y := 1) rfl rfl ?_
        refine h_s rfl ?_
        refine h_is (2 + 8 * n + 1) rfl a55 (by omega) rfl (by omega) (fun w24 e24 f24 => ?_)
        replace T := MT.fr55 T e24 (by rw [List.length_set]; exact hl) (by rw [gD_ne (by omega)]; exact h0) hn f24
        have F := fun j h1 h2 => (f24 j h2).trans (F j h1 h2)
        have T : MTk _ _ _ _ _ _ _ _ _ := T
        have T1 := T
        obtain ⟨a54, a55, a60, hl, h0, hn, tl, htn⟩ := id T
        refine h_s rfl ?_
        rw [st_l2 (by omega) (by omega)] at T
        have ep : rdStair tp tn n (i + 1) (newS s n (nI k)) (n + 1) = ⟨true, i + 1 + 1, (newS s n (nI k)).set (2 + 8 * n + 1) (nI (n - 1)), n + 1⟩ := by
          unfold rdStair
          rw [if_pos (show tkW tp tn (i + 1) 7 = true from decide_eq_true k42), if_neg (by omega)]
        rw [show rdHouse tp tn k i s n = (rdHours tp tn n (i + 1 + 1) ((newS s n (nI k)).set (2 + 8 * n + 1) (nI (n - 1))) (n + 1)).on (rdSleep tp tn n) from by unfold rdHouse; rw [if_pos (by omega), ep]; rfl]
        obtain ⟨v6, w6, q6, r6⟩ := m_house113 (X := X) (x1 := some (.int (nI k))) (h := n) T (by omega)
        exact ⟨v6, w6, q6, r6.tr F⟩
end MI
