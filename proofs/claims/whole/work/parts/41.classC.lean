/-! THE CLASS: a house, the rest; a row -/
section XC
variable {X : List Int32} {w : ab_W} {q : Nat} {s : List Int32} {h : Nat}
set_option maxRecDepth 100000 in
set_option maxHeartbeats 4000000 in
theorem x_wakes (hw : w[q]? = some (.inl (0, hL s h))) (c : Int32) : ab_M X kX0_wakes [.ref q, .int c] w (some (.int (wakeV s h c))) w := by
  show ab_G X kX0_wakes 0 [some (.ref q), some (.int c), none] [] w _ _
  refine ab_s rfl ?_
  refine ab_gf rfl rfl rfl hw rfl ?_
  refine ab_k (y := 3) rfl rfl ?_
  refine j2_ne rfl rfl (fun h5 => ?_) (fun h5 => ?_)
  · refine ab_s rfl ?_
    refine ab_k (y := 22) rfl rfl ?_
    refine j2_ge rfl rfl (fun h13 => ?_) (fun h13 => ?_)
    · refine ab_s rfl ?_
      refine ab_gf rfl rfl rfl hw rfl ?_
      iterate 3 refine ab_s rfl ?_
      refine ab_gf rfl rfl rfl hw rfl ?_
      refine ab_k (y := 5) rfl rfl ?_
      refine j2_ne rfl rfl (fun h36 => ?_) (fun h36 => ?_)
      · refine ab_s rfl ?_
        exact ab_ri rfl (by (try simp only [c22_i] at *); (try simp only [nle_i] at *); simp [wakeV, *])
      · refine ab_s rfl ?_
        refine ab_k (y := 1) rfl rfl ?_
        iterate 2 refine ab_s rfl ?_
        exact ab_ri rfl (by (try simp only [c22_i] at *); (try simp only [nle_i] at *); simp [wakeV, *])
    · refine ab_s rfl ?_
      refine ab_k (y := 6) rfl rfl ?_
      refine j2_ge rfl rfl (fun h19 => ?_) (fun h19 => ?_)
      · refine ab_k (y := 0) rfl rfl ?_
        iterate 2 refine ab_s rfl ?_
        refine ab_gf rfl rfl rfl hw rfl ?_
        refine ab_k (y := 5) rfl rfl ?_
        refine j2_ne rfl rfl (fun h36 => ?_) (fun h36 => ?_)
        · refine ab_s rfl ?_
          exact ab_ri rfl (by (try simp only [c22_i] at *); (try simp only [nle_i] at *); simp [wakeV, *])
        · refine ab_s rfl ?_
          refine ab_k (y := 1) rfl rfl ?_
          refine ab_s rfl ?_
          refine ab_t (y := 1) rfl ?_
          refine ab_s rfl ?_
          exact ab_ri rfl (by (try simp only [c22_i] at *); (try simp only [nle_i] at *); simp [wakeV, *])
      · refine ab_s rfl ?_
        refine ab_gf rfl rfl rfl hw rfl ?_
        iterate 3 refine ab_s rfl ?_
        refine ab_gf rfl rfl rfl hw rfl ?_
        refine ab_k (y := 5) rfl rfl ?_
        refine j2_ne rfl rfl (fun h36 => ?_) (fun h36 => ?_)
        · refine ab_s rfl ?_
          exact ab_ri rfl (by (try simp only [c22_i] at *); (try simp only [nle_i] at *); simp [wakeV, *])
        · refine ab_s rfl ?_
          refine ab_k (y := 1) rfl rfl ?_
          iterate 2 refine ab_s rfl ?_
          exact ab_ri rfl (by (try simp only [c22_i] at *); (try simp only [nle_i] at *); simp [wakeV, *])
  · refine ab_k (y := 0) rfl rfl ?_
    exact ab_ri rfl (by (try simp only [c22_i] at *); (try simp only [nle_i] at *); simp [wakeV, *])
set_option maxRecDepth 100000 in
set_option maxHeartbeats 4000000 in
theorem x_fallOut (hw : w[q]? = some (.inl (0, hL s h))) {f : Nat} (hf : f < 8) (hl : s.length = 90) (hh : h < 8) : ab_Q X kX0_fallOut [.ref q, .int (nI f)] w (fun v1 w1 => v1 = none ∧ w1[q]? = some (.inl (0, hL (quarS s h f) h)) ∧ ∀ i, i ≠ q → w1[i]? = w[i]?) := by
  show ab_H X kX0_fallOut 0 [some (.ref q), some (.int (nI f))] [] w _
  iterate 2 refine h_s rfl ?_
  refine h_gf rfl rfl rfl hw rfl ?_
  refine h_s rfl ?_
  refine h_k (y := 0) rfl rfl ?_
  refine h_c rfl (x_marked (fld s h 2) f false) ?_
  refine h_n (st2 := [_, _]) rfl ?_
  refine h_pf rfl rfl hw rfl (fun w1 e1 f1 => ?_)
  have hw := e1
  iterate 2 refine h_s rfl ?_
  refine h_gf rfl rfl rfl hw rfl ?_
  refine h_s rfl ?_
  refine h_k (y := 1) rfl rfl ?_
  refine h_c rfl (x_marked (fld s h 5) f true) ?_
  refine h_n (st2 := [_, _]) rfl ?_
  refine h_pf rfl rfl hw rfl (fun w2 e2 f2 => ?_)
  refine h_r rfl ⟨rfl, e2.trans ?_, fun i hi => (f2 i hi).trans (f1 i hi)⟩
  unfold quarS
  rw [hL_set (j := 5) (by rw [List.length_set]; exact hl) hh (by decide), hL_set (j := 2) hl hh (by decide)]
set_option maxRecDepth 100000 in
set_option maxHeartbeats 4000000 in
theorem x_isOne (hw : w[q]? = some (.inl (0, hL s h))) {k j : Nat} (hk7 : k < 7) (hk : fld s h 0 = nI k) (hj : j < 7) : ab_M X kX0_isOne [.ref q, .int (nI j)] w (some (.int (z01 (asI (fld s h 0) (nI j))))) w := by
  show ab_G X kX0_isOne 0 [some (.ref q), some (.int (nI j)), none, none] [] w _ _
  rw [hk]
  rcases (show k = 0 ∨ k = 1 ∨ k = 2 ∨ k = 3 ∨ k = 4 ∨ k = 5 ∨ k = 6 by omega) with rfl | rfl | rfl | rfl | rfl | rfl | rfl
  · refine ab_s rfl ?_
    refine ab_gf rfl rfl rfl hw rfl ?_
    refine ab_t (y := 0) hk ?_
    refine ab_s rfl ?_
    refine ab_k (y := 0) rfl rfl ?_
    iterate 6 refine ab_s rfl ?_
    refine ab_c rfl (x_isKind 0) ?_
    refine ab_t (y := 1) (by decide +kernel) ?_
    refine ab_n (st2 := [_]) rfl ?_
    iterate 3 refine ab_s rfl ?_
    refine jN_ne (a := 0) rfl rfl rfl rfl (by omega) (by omega) (fun h24 => ?_) (fun h24 => ?_)
    · iterate 2 refine ab_s rfl ?_
      refine ab_c rfl (x_cellA (j := 0) (by decide)) ?_
      refine ab_t (y := (-1)) rfl ?_
      refine ab_n (st2 := [_]) rfl ?_
      refine ab_s rfl ?_
      refine ab_ii (j := 0) rfl rfl rfl ?_
      iterate 6 refine ab_s rfl ?_
      refine ab_c rfl (x_isKind (-1)) ?_
      refine ab_t (y := 0) (by decide +kernel) ?_
      refine ab_n (st2 := [_]) rfl ?_
      refine ab_s rfl ?_
      refine ab_k (y := 0) rfl rfl ?_
      exact ab_ri rfl ((by decide +kernel : ∀ j, j < 7 → ¬ 0 = j → (0 : Int32) = z01 (asI (nI 0) (nI j))) j hj h24)
    · refine ab_k (y := 1) rfl rfl ?_
      exact ab_ri rfl ((by decide +kernel : ∀ j, j < 7 → 0 = j → (1 : Int32) = z01 (asI (nI 0) (nI j))) j hj h24)
  · refine ab_s rfl ?_
    refine ab_gf rfl rfl rfl hw rfl ?_
    refine ab_t (y := 1) hk ?_
    refine ab_s rfl ?_
    refine ab_k (y := 0) rfl rfl ?_
    iterate 6 refine ab_s rfl ?_
    refine ab_c rfl (x_isKind 1) ?_
    refine ab_t (y := 1) (by decide +kernel) ?_
    refine ab_n (st2 := [_]) rfl ?_
    iterate 3 refine ab_s rfl ?_
    refine jN_ne (a := 1) rfl rfl rfl rfl (by omega) (by omega) (fun h24 => ?_) (fun h24 => ?_)
    · iterate 2 refine ab_s rfl ?_
      refine ab_c rfl (x_cellA (j := 1) (by decide)) ?_
      refine ab_t (y := 0) rfl ?_
      refine ab_n (st2 := [_]) rfl ?_
      refine ab_s rfl ?_
      refine ab_ii (j := 0) rfl rfl rfl ?_
      iterate 6 refine ab_s rfl ?_
      refine ab_c rfl (x_isKind 0) ?_
      refine ab_t (y := 1) (by decide +kernel) ?_
      refine ab_n (st2 := [_]) rfl ?_
      iterate 3 refine ab_s rfl ?_
      refine jN_ne (a := 0) rfl rfl rfl rfl (by omega) (by omega) (fun h24_2 => ?_) (fun h24_2 => ?_)
      · iterate 2 refine ab_s rfl ?_
        refine ab_c rfl (x_cellA (j := 0) (by decide)) ?_
        refine ab_t (y := (-1)) rfl ?_
        refine ab_n (st2 := [_]) rfl ?_
        refine ab_s rfl ?_
        refine ab_ii (j := 1) rfl rfl rfl ?_
        iterate 6 refine ab_s rfl ?_
        refine ab_c rfl (x_isKind (-1)) ?_
        refine ab_t (y := 0) (by decide +kernel) ?_
        refine ab_n (st2 := [_]) rfl ?_
        refine ab_s rfl ?_
        refine ab_k (y := 0) rfl rfl ?_
        exact ab_ri rfl ((by decide +kernel : ∀ j, j < 7 → ¬ 1 = j → ¬ 0 = j → (0 : Int32) = z01 (asI (nI 1) (nI j))) j hj h24 h24_2)
      · refine ab_k (y := 1) rfl rfl ?_
        exact ab_ri rfl ((by decide +kernel : ∀ j, j < 7 → ¬ 1 = j → 0 = j → (1 : Int32) = z01 (asI (nI 1) (nI j))) j hj h24 h24_2)
    · refine ab_k (y := 1) rfl rfl ?_
      exact ab_ri rfl ((by decide +kernel : ∀ j, j < 7 → 1 = j → (1 : Int32) = z01 (asI (nI 1) (nI j))) j hj h24)
  · refine ab_s rfl ?_
    refine ab_gf rfl rfl rfl hw rfl ?_
    refine ab_t (y := 2) hk ?_
    refine ab_s rfl ?_
    refine ab_k (y := 0) rfl rfl ?_
    iterate 6 refine ab_s rfl ?_
    refine ab_c rfl (x_isKind 2) ?_
    refine ab_t (y := 1) (by decide +kernel) ?_
    refine ab_n (st2 := [_]) rfl ?_
    iterate 3 refine ab_s rfl ?_
    refine jN_ne (a := 2) rfl rfl rfl rfl (by omega) (by omega) (fun h24 => ?_) (fun h24 => ?_)
    · iterate 2 refine ab_s rfl ?_
      refine ab_c rfl (x_cellA (j := 2) (by decide)) ?_
      refine ab_t (y := 0) rfl ?_
      refine ab_n (st2 := [_]) rfl ?_
      refine ab_s rfl ?_
      refine ab_ii (j := 0) rfl rfl rfl ?_
      iterate 6 refine ab_s rfl ?_
      refine ab_c rfl (x_isKind 0) ?_
      refine ab_t (y := 1) (by decide +kernel) ?_
      refine ab_n (st2 := [_]) rfl ?_
      iterate 3 refine ab_s rfl ?_
      refine jN_ne (a := 0) rfl rfl rfl rfl (by omega) (by omega) (fun h24_2 => ?_) (fun h24_2 => ?_)
      · iterate 2 refine ab_s rfl ?_
        refine ab_c rfl (x_cellA (j := 0) (by decide)) ?_
        refine ab_t (y := (-1)) rfl ?_
        refine ab_n (st2 := [_]) rfl ?_
        refine ab_s rfl ?_
        refine ab_ii (j := 1) rfl rfl rfl ?_
        iterate 6 refine ab_s rfl ?_
        refine ab_c rfl (x_isKind (-1)) ?_
        refine ab_t (y := 0) (by decide +kernel) ?_
        refine ab_n (st2 := [_]) rfl ?_
        refine ab_s rfl ?_
        refine ab_k (y := 0) rfl rfl ?_
        exact ab_ri rfl ((by decide +kernel : ∀ j, j < 7 → ¬ 2 = j → ¬ 0 = j → (0 : Int32) = z01 (asI (nI 2) (nI j))) j hj h24 h24_2)
      · refine ab_k (y := 1) rfl rfl ?_
        exact ab_ri rfl ((by decide +kernel : ∀ j, j < 7 → ¬ 2 = j → 0 = j → (1 : Int32) = z01 (asI (nI 2) (nI j))) j hj h24 h24_2)
    · refine ab_k (y := 1) rfl rfl ?_
      exact ab_ri rfl ((by decide +kernel : ∀ j, j < 7 → 2 = j → (1 : Int32) = z01 (asI (nI 2) (nI j))) j hj h24)
  · refine ab_s rfl ?_
    refine ab_gf rfl rfl rfl hw rfl ?_
    refine ab_t (y := 3) hk ?_
    refine ab_s rfl ?_
    refine ab_k (y := 0) rfl rfl ?_
    iterate 6 refine ab_s rfl ?_
    refine ab_c rfl (x_isKind 3) ?_
    refine ab_t (y := 1) (by decide +kernel) ?_
    refine ab_n (st2 := [_]) rfl ?_
    iterate 3 refine ab_s rfl ?_
    refine jN_ne (a := 3) rfl rfl rfl rfl (by omega) (by omega) (fun h24 => ?_) (fun h24 => ?_)
    · iterate 2 refine ab_s rfl ?_
      refine ab_c rfl (x_cellA (j := 3) (by decide)) ?_
      refine ab_t (y := 2) rfl ?_
      refine ab_n (st2 := [_]) rfl ?_
      refine ab_s rfl ?_
      refine ab_ii (j := 0) rfl rfl rfl ?_
      iterate 6 refine ab_s rfl ?_
      refine ab_c rfl (x_isKind 2) ?_
      refine ab_t (y := 1) (by decide +kernel) ?_
      refine ab_n (st2 := [_]) rfl ?_
      iterate 3 refine ab_s rfl ?_
      refine jN_ne (a := 2) rfl rfl rfl rfl (by omega) (by omega) (fun h24_2 => ?_) (fun h24_2 => ?_)
      · iterate 2 refine ab_s rfl ?_
        refine ab_c rfl (x_cellA (j := 2) (by decide)) ?_
        refine ab_t (y := 0) rfl ?_
        refine ab_n (st2 := [_]) rfl ?_
        refine ab_s rfl ?_
        refine ab_ii (j := 1) rfl rfl rfl ?_
        iterate 6 refine ab_s rfl ?_
        refine ab_c rfl (x_isKind 0) ?_
        refine ab_t (y := 1) (by decide +kernel) ?_
        refine ab_n (st2 := [_]) rfl ?_
        iterate 3 refine ab_s rfl ?_
        refine jN_ne (a := 0) rfl rfl rfl rfl (by omega) (by omega) (fun h24_3 => ?_) (fun h24_3 => ?_)
        · iterate 2 refine ab_s rfl ?_
          refine ab_c rfl (x_cellA (j := 0) (by decide)) ?_
          refine ab_t (y := (-1)) rfl ?_
          refine ab_n (st2 := [_]) rfl ?_
          refine ab_s rfl ?_
          refine ab_ii (j := 2) rfl rfl rfl ?_
          iterate 6 refine ab_s rfl ?_
          refine ab_c rfl (x_isKind (-1)) ?_
          refine ab_t (y := 0) (by decide +kernel) ?_
          refine ab_n (st2 := [_]) rfl ?_
          refine ab_s rfl ?_
          refine ab_k (y := 0) rfl rfl ?_
          exact ab_ri rfl ((by decide +kernel : ∀ j, j < 7 → ¬ 3 = j → ¬ 2 = j → ¬ 0 = j → (0 : Int32) = z01 (asI (nI 3) (nI j))) j hj h24 h24_2 h24_3)
        · refine ab_k (y := 1) rfl rfl ?_
          exact ab_ri rfl ((by decide +kernel : ∀ j, j < 7 → ¬ 3 = j → ¬ 2 = j → 0 = j → (1 : Int32) = z01 (asI (nI 3) (nI j))) j hj h24 h24_2 h24_3)
      · refine ab_k (y := 1) rfl rfl ?_
        exact ab_ri rfl ((by decide +kernel : ∀ j, j < 7 → ¬ 3 = j → 2 = j → (1 : Int32) = z01 (asI (nI 3) (nI j))) j hj h24 h24_2)
    · refine ab_k (y := 1) rfl rfl ?_
      exact ab_ri rfl ((by decide +kernel : ∀ j, j < 7 → 3 = j → (1 : Int32) = z01 (asI (nI 3) (nI j))) j hj h24)
  · refine ab_s rfl ?_
    refine ab_gf rfl rfl rfl hw rfl ?_
    refine ab_t (y := 4) hk ?_
    refine ab_s rfl ?_
    refine ab_k (y := 0) rfl rfl ?_
    iterate 6 refine ab_s rfl ?_
    refine ab_c rfl (x_isKind 4) ?_
    refine ab_t (y := 1) (by decide +kernel) ?_
    refine ab_n (st2 := [_]) rfl ?_
    iterate 3 refine ab_s rfl ?_
    refine jN_ne (a := 4) rfl rfl rfl rfl (by omega) (by omega) (fun h24 => ?_) (fun h24 => ?_)
    · iterate 2 refine ab_s rfl ?_
      refine ab_c rfl (x_cellA (j := 4) (by decide)) ?_
      refine ab_t (y := 1) rfl ?_
      refine ab_n (st2 := [_]) rfl ?_
      refine ab_s rfl ?_
      refine ab_ii (j := 0) rfl rfl rfl ?_
      iterate 6 refine ab_s rfl ?_
      refine ab_c rfl (x_isKind 1) ?_
      refine ab_t (y := 1) (by decide +kernel) ?_
      refine ab_n (st2 := [_]) rfl ?_
      iterate 3 refine ab_s rfl ?_
      refine jN_ne (a := 1) rfl rfl rfl rfl (by omega) (by omega) (fun h24_2 => ?_) (fun h24_2 => ?_)
      · iterate 2 refine ab_s rfl ?_
        refine ab_c rfl (x_cellA (j := 1) (by decide)) ?_
        refine ab_t (y := 0) rfl ?_
        refine ab_n (st2 := [_]) rfl ?_
        refine ab_s rfl ?_
        refine ab_ii (j := 1) rfl rfl rfl ?_
        iterate 6 refine ab_s rfl ?_
        refine ab_c rfl (x_isKind 0) ?_
        refine ab_t (y := 1) (by decide +kernel) ?_
        refine ab_n (st2 := [_]) rfl ?_
        iterate 3 refine ab_s rfl ?_
        refine jN_ne (a := 0) rfl rfl rfl rfl (by omega) (by omega) (fun h24_3 => ?_) (fun h24_3 => ?_)
        · iterate 2 refine ab_s rfl ?_
          refine ab_c rfl (x_cellA (j := 0) (by decide)) ?_
          refine ab_t (y := (-1)) rfl ?_
          refine ab_n (st2 := [_]) rfl ?_
          refine ab_s rfl ?_
          refine ab_ii (j := 2) rfl rfl rfl ?_
          iterate 6 refine ab_s rfl ?_
          refine ab_c rfl (x_isKind (-1)) ?_
          refine ab_t (y := 0) (by decide +kernel) ?_
          refine ab_n (st2 := [_]) rfl ?_
          refine ab_s rfl ?_
          refine ab_k (y := 0) rfl rfl ?_
          exact ab_ri rfl ((by decide +kernel : ∀ j, j < 7 → ¬ 4 = j → ¬ 1 = j → ¬ 0 = j → (0 : Int32) = z01 (asI (nI 4) (nI j))) j hj h24 h24_2 h24_3)
        · refine ab_k (y := 1) rfl rfl ?_
          exact ab_ri rfl ((by decide +kernel : ∀ j, j < 7 → ¬ 4 = j → ¬ 1 = j → 0 = j → (1 : Int32) = z01 (asI (nI 4) (nI j))) j hj h24 h24_2 h24_3)
      · refine ab_k (y := 1) rfl rfl ?_
        exact ab_ri rfl ((by decide +kernel : ∀ j, j < 7 → ¬ 4 = j → 1 = j → (1 : Int32) = z01 (asI (nI 4) (nI j))) j hj h24 h24_2)
    · refine ab_k (y := 1) rfl rfl ?_
      exact ab_ri rfl ((by decide +kernel : ∀ j, j < 7 → 4 = j → (1 : Int32) = z01 (asI (nI 4) (nI j))) j hj h24)
  · refine ab_s rfl ?_
    refine ab_gf rfl rfl rfl hw rfl ?_
    refine ab_t (y := 5) hk ?_
    refine ab_s rfl ?_
    refine ab_k (y := 0) rfl rfl ?_
    iterate 6 refine ab_s rfl ?_
    refine ab_c rfl (x_isKind 5) ?_
    refine ab_t (y := 1) (by decide +kernel) ?_
    refine ab_n (st2 := [_]) rfl ?_
    iterate 3 refine ab_s rfl ?_
    refine jN_ne (a := 5) rfl rfl rfl rfl (by omega) (by omega) (fun h24 => ?_) (fun h24 => ?_)
    · iterate 2 refine ab_s rfl ?_
      refine ab_c rfl (x_cellA (j := 5) (by decide)) ?_
      refine ab_t (y := 0) rfl ?_
      refine ab_n (st2 := [_]) rfl ?_
      refine ab_s rfl ?_
      refine ab_ii (j := 0) rfl rfl rfl ?_
      iterate 6 refine ab_s rfl ?_
      refine ab_c rfl (x_isKind 0) ?_
      refine ab_t (y := 1) (by decide +kernel) ?_
      refine ab_n (st2 := [_]) rfl ?_
      iterate 3 refine ab_s rfl ?_
      refine jN_ne (a := 0) rfl rfl rfl rfl (by omega) (by omega) (fun h24_2 => ?_) (fun h24_2 => ?_)
      · iterate 2 refine ab_s rfl ?_
        refine ab_c rfl (x_cellA (j := 0) (by decide)) ?_
        refine ab_t (y := (-1)) rfl ?_
        refine ab_n (st2 := [_]) rfl ?_
        refine ab_s rfl ?_
        refine ab_ii (j := 1) rfl rfl rfl ?_
        iterate 6 refine ab_s rfl ?_
        refine ab_c rfl (x_isKind (-1)) ?_
        refine ab_t (y := 0) (by decide +kernel) ?_
        refine ab_n (st2 := [_]) rfl ?_
        refine ab_s rfl ?_
        refine ab_k (y := 0) rfl rfl ?_
        exact ab_ri rfl ((by decide +kernel : ∀ j, j < 7 → ¬ 5 = j → ¬ 0 = j → (0 : Int32) = z01 (asI (nI 5) (nI j))) j hj h24 h24_2)
      · refine ab_k (y := 1) rfl rfl ?_
        exact ab_ri rfl ((by decide +kernel : ∀ j, j < 7 → ¬ 5 = j → 0 = j → (1 : Int32) = z01 (asI (nI 5) (nI j))) j hj h24 h24_2)
    · refine ab_k (y := 1) rfl rfl ?_
      exact ab_ri rfl ((by decide +kernel : ∀ j, j < 7 → 5 = j → (1 : Int32) = z01 (asI (nI 5) (nI j))) j hj h24)
  · refine ab_s rfl ?_
    refine ab_gf rfl rfl rfl hw rfl ?_
    refine ab_t (y := 6) hk ?_
    refine ab_s rfl ?_
    refine ab_k (y := 0) rfl rfl ?_
    iterate 6 refine ab_s rfl ?_
    refine ab_c rfl (x_isKind 6) ?_
    refine ab_t (y := 1) (by decide +kernel) ?_
    refine ab_n (st2 := [_]) rfl ?_
    iterate 3 refine ab_s rfl ?_
    refine jN_ne (a := 6) rfl rfl rfl rfl (by omega) (by omega) (fun h24 => ?_) (fun h24 => ?_)
    · iterate 2 refine ab_s rfl ?_
      refine ab_c rfl (x_cellA (j := 6) (by decide)) ?_
      refine ab_t (y := 1) rfl ?_
      refine ab_n (st2 := [_]) rfl ?_
      refine ab_s rfl ?_
      refine ab_ii (j := 0) rfl rfl rfl ?_
      iterate 6 refine ab_s rfl ?_
      refine ab_c rfl (x_isKind 1) ?_
      refine ab_t (y := 1) (by decide +kernel) ?_
      refine ab_n (st2 := [_]) rfl ?_
      iterate 3 refine ab_s rfl ?_
      refine jN_ne (a := 1) rfl rfl rfl rfl (by omega) (by omega) (fun h24_2 => ?_) (fun h24_2 => ?_)
      · iterate 2 refine ab_s rfl ?_
        refine ab_c rfl (x_cellA (j := 1) (by decide)) ?_
        refine ab_t (y := 0) rfl ?_
        refine ab_n (st2 := [_]) rfl ?_
        refine ab_s rfl ?_
        refine ab_ii (j := 1) rfl rfl rfl ?_
        iterate 6 refine ab_s rfl ?_
        refine ab_c rfl (x_isKind 0) ?_
        refine ab_t (y := 1) (by decide +kernel) ?_
        refine ab_n (st2 := [_]) rfl ?_
        iterate 3 refine ab_s rfl ?_
        refine jN_ne (a := 0) rfl rfl rfl rfl (by omega) (by omega) (fun h24_3 => ?_) (fun h24_3 => ?_)
        · iterate 2 refine ab_s rfl ?_
          refine ab_c rfl (x_cellA (j := 0) (by decide)) ?_
          refine ab_t (y := (-1)) rfl ?_
          refine ab_n (st2 := [_]) rfl ?_
          refine ab_s rfl ?_
          refine ab_ii (j := 2) rfl rfl rfl ?_
          iterate 6 refine ab_s rfl ?_
          refine ab_c rfl (x_isKind (-1)) ?_
          refine ab_t (y := 0) (by decide +kernel) ?_
          refine ab_n (st2 := [_]) rfl ?_
          refine ab_s rfl ?_
          refine ab_k (y := 0) rfl rfl ?_
          exact ab_ri rfl ((by decide +kernel : ∀ j, j < 7 → ¬ 6 = j → ¬ 1 = j → ¬ 0 = j → (0 : Int32) = z01 (asI (nI 6) (nI j))) j hj h24 h24_2 h24_3)
        · refine ab_k (y := 1) rfl rfl ?_
          exact ab_ri rfl ((by decide +kernel : ∀ j, j < 7 → ¬ 6 = j → ¬ 1 = j → 0 = j → (1 : Int32) = z01 (asI (nI 6) (nI j))) j hj h24 h24_2 h24_3)
      · refine ab_k (y := 1) rfl rfl ?_
        exact ab_ri rfl ((by decide +kernel : ∀ j, j < 7 → ¬ 6 = j → 1 = j → (1 : Int32) = z01 (asI (nI 6) (nI j))) j hj h24 h24_2)
    · refine ab_k (y := 1) rfl rfl ?_
      exact ab_ri rfl ((by decide +kernel : ∀ j, j < 7 → 6 = j → (1 : Int32) = z01 (asI (nI 6) (nI j))) j hj h24)
end XC
/-- the houses of a row whose object stands at r -/
def rowHs (r : Nat) : List Value := (List.range 8).map (fun h => Value.ref (r + 3 + h))
theorem rowHs_l (r : Nat) : (rowHs r).length = 8 := by simp [rowHs]
theorem rowHs_g (r : Nat) {h : Nat} (hh : h < 8) : (rowHs r)[h]? = some (.ref (r + 3 + h)) := by simp [rowHs, hh]
/-- the row at r is s -/
def RowW (w : ab_W) (r : Nat) (s : List Int32) (n : Nat) : Prop :=
  w[r]? = some (.inl (2, [.ref (r + 1), .int (nI n), .int (bs (dB s) 14), .int (s.getD 1 0), .ref (r + 2)])) ∧ w[r + 1]? = some (.inl (7, rowHs r)) ∧ w[r + 2]? = some (.inr (s.drop 80)) ∧ (∀ h, h < n → w[r + 3 + h]? = some (.inl (0, hL s h))) ∧ (∀ h, h < 8 → ∃ vs, w[r + 3 + h]? = some (.inl (0, vs)) ∧ vs.length = 9) ∧ s.length = 90 ∧ s.getD 0 0 = nI n ∧ n ≤ 8
theorem RowW.fr {w w1 : ab_W} {r n : Nat} {s : List Int32} (R : RowW w r s n) (F : ∀ i, r ≤ i → i < r + 11 → w1[i]? = w[i]?) : RowW w1 r s n := by
  obtain ⟨r0, r1, r2, r3, r4, hl, h0, hn⟩ := R
  refine ⟨(F _ (by omega) (by omega)).trans r0, (F _ (by omega) (by omega)).trans r1, (F _ (by omega) (by omega)).trans r2, fun h hh => (F _ (by omega) (by omega)).trans (r3 h hh), fun h hh => ?_, hl, h0, hn⟩
  obtain ⟨vs, e1, e2⟩ := r4 h hh
  exact ⟨vs, (F _ (by omega) (by omega)).trans e1, e2⟩
section XD
variable {X : List Int32} {w : ab_W} {r n : Nat} {s : List Int32}
set_option maxRecDepth 100000 in
set_option maxHeartbeats 4000000 in
theorem x_at (R : RowW w r s n) {h : Nat} (hh : h < n) : ab_M X kX2_at [.ref r, .int (nI h)] w (some (.ref (r + 3 + h))) w := by
  have R0 := R
  obtain ⟨r0, r1, r2, r3, r4, hl, h0, hn⟩ := R
  show ab_G X kX2_at 0 [some (.ref r), some (.int (nI h))] [] w _ _
  refine ab_s rfl ?_
  refine jM_lt rfl rfl rfl rfl (by omega) (fun h1 => absurd h1 (by omega)) (fun h1 => ?_)
  iterate 2 refine ab_s rfl ?_
  refine ab_gf rfl rfl rfl r0 rfl ?_
  refine jN_ge rfl rfl rfl rfl (by omega) (by omega) (fun h9 => absurd h9 (by omega)) (fun h9 => ?_)
  iterate 2 refine ab_s rfl ?_
  refine ab_gf rfl rfl rfl r0 rfl ?_
  refine ab_alq (x := 8) rfl r1 rfl (by rw [rowHs_l]; rfl) ?_
  refine jN_lt (b := 8) rfl rfl rfl rfl (by omega) (by omega) (fun h18 => ?_) (fun h18 => absurd (by omega) h18)
  refine ab_s rfl ?_
  refine ab_gf rfl rfl rfl r0 rfl ?_
  refine ab_s rfl ?_
  refine ab_aq h rfl r1 rfl (by rw [rowHs_l]; decide) rfl (rowHs_g r (by omega)) ?_
  exact ab_r rfl
set_option maxRecDepth 100000 in
set_option maxHeartbeats 4000000 in
theorem x_atO (R : RowW w r s n) (x : Int32) (hx : inN x n = false) : ab_M X kX2_at [.ref r, .int x] w (some (.null)) w := by
  have R0 := R
  obtain ⟨r0, r1, r2, r3, r4, hl, h0, hn⟩ := R
  show ab_G X kX2_at 0 [some (.ref r), some (.int x)] [] w _ _
  refine ab_s rfl ?_
  refine j1_lt rfl rfl (fun h1 => ?_) (fun h1 => ?_)
  · iterate 2 refine ab_s rfl ?_
    exact ab_r rfl
  · iterate 2 refine ab_s rfl ?_
    refine ab_gf rfl rfl rfl r0 rfl ?_
    refine j2_ge rfl rfl (fun h9 => ?_) (fun h9 => ?_)
    · iterate 2 refine ab_s rfl ?_
      exact ab_r rfl
    · exact absurd (hx.symm.trans (inN_mid (by omega) h1 h9)) (by decide)
set_option maxRecDepth 100000 in
set_option maxHeartbeats 4000000 in
theorem x_rhas (R : RowW w r s n) (x : Int32) : ab_M X kX2_has [.ref r, .int x] w (some (.int (z01 (inN x n)))) w := by
  have R0 := R
  obtain ⟨r0, r1, r2, r3, r4, hl, h0, hn⟩ := R
  show ab_G X kX2_has 0 [some (.ref r), some (.int x)] [] w _ _
  iterate 2 refine ab_s rfl ?_
  refine ab_gf rfl rfl rfl r0 rfl ?_
  refine ab_c rfl (x_isBelow x n (by omega)) ?_
  refine ab_n (st2 := [_]) rfl ?_
  exact ab_rz rfl rfl rfl
set_option maxRecDepth 100000 in
set_option maxHeartbeats 4000000 in
theorem x_hasRoom (R : RowW w r s n) (x : Int32) : ab_M X kX2_hasRoom [.ref r, .int x] w (some (.int (z01 (inN x (2 * n))))) w := by
  have R0 := R
  obtain ⟨r0, r1, r2, r3, r4, hl, h0, hn⟩ := R
  show ab_G X kX2_hasRoom 0 [some (.ref r), some (.int x)] [] w _ _
  refine ab_s rfl ?_
  refine ab_k (y := 2) rfl rfl ?_
  refine ab_s rfl ?_
  refine ab_gf rfl rfl rfl r0 rfl ?_
  refine ab_Nmul (a := 2) rfl rfl rfl ?_
  refine ab_c rfl (x_isBelow x (2 * n) (by omega)) ?_
  refine ab_n (st2 := [_]) rfl ?_
  exact ab_rz rfl rfl rfl
set_option maxRecDepth 100000 in
set_option maxHeartbeats 4000000 in
theorem x_isFull (R : RowW w r s n)  : ab_M X kX2_isFull [.ref r] w (some (.int (z01 (decide (8 ≤ n))))) w := by
  have R0 := R
  obtain ⟨r0, r1, r2, r3, r4, hl, h0, hn⟩ := R
  show ab_G X kX2_isFull 0 [some (.ref r)] [] w _ _
  refine ab_s rfl ?_
  refine ab_gf rfl rfl rfl r0 rfl ?_
  refine ab_k (y := 8) rfl rfl ?_
  refine jN_lt (b := 8) rfl rfl rfl rfl (by omega) (by omega) (fun h6 => ?_) (fun h6 => ?_)
  · refine ab_k (y := 0) rfl rfl ?_
    exact ab_ri rfl (by first | (rw [decide_eq_true (by omega)]; rfl) | (rw [decide_eq_false (by omega)]; rfl))
  · refine ab_k (y := 1) rfl rfl ?_
    refine ab_s rfl ?_
    exact ab_ri rfl (by first | (rw [decide_eq_true (by omega)]; rfl) | (rw [decide_eq_false (by omega)]; rfl))
set_option maxRecDepth 100000 in
set_option maxHeartbeats 4000000 in
theorem x_stairOf (R : RowW w r s n) {h : Nat} (hh : h < n) : ab_M X kX2_stairOf [.ref r, .int (nI h)] w (some (.int (fld s h 1))) w := by
  have R0 := R
  obtain ⟨r0, r1, r2, r3, r4, hl, h0, hn⟩ := R
  show ab_G X kX2_stairOf 0 [some (.ref r), some (.int (nI h)), none] [] w _ _
  iterate 2 refine ab_s rfl ?_
  refine ab_cv rfl rfl rfl r0 rfl rfl (x_at R0 hh) ?_
  refine ab_n (st2 := [_]) rfl ?_
  iterate 4 refine ab_s rfl ?_
  refine ab_gf rfl rfl rfl (r3 _ hh) rfl ?_
  exact ab_ri rfl rfl
set_option maxRecDepth 100000 in
set_option maxHeartbeats 4000000 in
theorem x_stairOfO (R : RowW w r s n) (x : Int32) (hx : inN x n = false) : ab_M X kX2_stairOf [.ref r, .int x] w (some (.int (-1))) w := by
  have R0 := R
  obtain ⟨r0, r1, r2, r3, r4, hl, h0, hn⟩ := R
  show ab_G X kX2_stairOf 0 [some (.ref r), some (.int x), none] [] w _ _
  iterate 2 refine ab_s rfl ?_
  refine ab_cv rfl rfl rfl r0 rfl rfl (x_atO R0 x hx) ?_
  refine ab_n (st2 := [_]) rfl ?_
  iterate 3 refine ab_s rfl ?_
  refine ab_k (y := (-1)) rfl rfl ?_
  refine ab_s rfl ?_
  exact ab_ri rfl rfl
set_option maxRecDepth 100000 in
set_option maxHeartbeats 4000000 in
theorem x_bedOf (R : RowW w r s n) {h : Nat} (hh : h < n) : ab_M X kX2_bedOf [.ref r, .int (nI h)] w (some (.int (fld s h 7))) w := by
  have R0 := R
  obtain ⟨r0, r1, r2, r3, r4, hl, h0, hn⟩ := R
  show ab_G X kX2_bedOf 0 [some (.ref r), some (.int (nI h)), none] [] w _ _
  iterate 2 refine ab_s rfl ?_
  refine ab_cv rfl rfl rfl r0 rfl rfl (x_at R0 hh) ?_
  refine ab_n (st2 := [_]) rfl ?_
  iterate 4 refine ab_s rfl ?_
  refine ab_gf rfl rfl rfl (r3 _ hh) rfl ?_
  exact ab_ri rfl rfl
set_option maxRecDepth 100000 in
set_option maxHeartbeats 4000000 in
theorem x_homeOf (R : RowW w r s n) (I : SI s n) {h : Nat} (hh : h < n) : ab_M X kX2_homeOf [.ref r, .int (nI h)] w (some (.int (nI (homeN s h)))) w := by
  have R0 := R
  obtain ⟨r0, r1, r2, r3, r4, hl, h0, hn⟩ := R
  show ab_G X kX2_homeOf 0 [some (.ref r), some (.int (nI h))] [] w _ _
  refine ab_k (y := 2) rfl rfl ?_
  iterate 2 refine ab_s rfl ?_
  refine ab_cv rfl rfl rfl r0 rfl rfl (x_bedOf R0 hh) ?_
  refine ab_t (bedN_e I hn hh).1 ?_
  refine ab_n (st2 := [_, _]) rfl ?_
  refine ab_Nmul (a := 2) rfl rfl rfl ?_
  refine ab_k (y := 1) rfl rfl ?_
  refine ab_Nadd (b := 1) rfl rfl rfl ?_
  exact ab_ri rfl rfl
set_option maxRecDepth 100000 in
set_option maxHeartbeats 4000000 in
theorem x_isOpen (R : RowW w r s n) (x : Int32) : ab_M X kX2_isOpen [.ref r, .int x] w (some (.int (z01 (inN x 14 && dB s x.toNatClampNeg)))) w := by
  have R0 := R
  obtain ⟨r0, r1, r2, r3, r4, hl, h0, hn⟩ := R
  show ab_G X kX2_isOpen 0 [some (.ref r), some (.int x)] [] w _ _
  refine ab_s rfl ?_
  refine ab_k (y := 14) rfl rfl ?_
  refine ab_c rfl (x_isBelow x 14 (by omega)) ?_
  refine ab_n (st2 := [_]) rfl ?_
  refine z1_eq rfl rfl (fun h6 => ?_) (fun h6 => ?_)
  · refine ab_k (y := 0) rfl rfl ?_
    exact ab_ri rfl (by rw [h6]; rfl)
  · refine ab_s rfl ?_
    refine ab_gf rfl rfl rfl r0 rfl ?_
    refine ab_s rfl ?_
    obtain ⟨d, hd, rfl⟩ := inN_t (by omega) h6
    rw [nI_clamp (by omega)]
    refine ab_c rfl (x_isInB (dB s) (by omega) hd) ?_
    refine ab_n (st2 := [_]) rfl ?_
    refine z1_eq rfl rfl (fun h17 => ?_) (fun h17 => ?_)
    · refine ab_k (y := 0) rfl rfl ?_
      exact ab_ri rfl (by rw [h6, h17]; rfl)
    · refine ab_k (y := 1) rfl rfl ?_
      refine ab_s rfl ?_
      exact ab_ri rfl (by rw [h6, h17]; rfl)
end XD
