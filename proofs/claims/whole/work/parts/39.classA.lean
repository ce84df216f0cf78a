/-! THE CLASS: its small helpers -/
theorem inN_lt0 {x : Int32} {m : Nat} (h : x < 0) : inN x m = false := inN_neg (by rw [lt_iff] at h; exact h)
theorem inN_geN {x : Int32} {m : Nat} (hm : m < 2 ^ 31) (h : nI m ≤ x) : inN x m = false := by
  rw [le_iff, nI_toInt hm] at h
  exact decide_eq_false (by omega)
theorem inN_mid {x : Int32} {m : Nat} (hm : m < 2 ^ 31) (h0 : ¬ x < 0) (h : ¬ nI m ≤ x) : inN x m = true := by
  rw [le_iff, nI_toInt hm] at h
  rw [lt_iff] at h0
  have h1 : ¬ x.toInt < 0 := h0
  exact decide_eq_true (by omega)
theorem cellD {xs : List Int32} {j : Nat} (h : ¬ j < xs.length) : xs.getD j 0 = 0 := by
  rw [List.getD_eq_getElem?_getD, List.getElem?_eq_none (by omega)]
  rfl
/-- the number of ones, as Integer.bitCount finds it -/
def pcI (x : Int32) : Int32 :=
  let a := x - ((x.toUInt32 >>> ((1 : Int32).toUInt32 &&& Int32.toUInt32 31)).toInt32 &&& 1431655765)
  let b := (a &&& 858993459) + ((a.toUInt32 >>> ((2 : Int32).toUInt32 &&& Int32.toUInt32 31)).toInt32 &&& 858993459)
  let c := (b + (b.toUInt32 >>> ((4 : Int32).toUInt32 &&& Int32.toUInt32 31)).toInt32) &&& 252645135
  let d := c + (c.toUInt32 >>> ((8 : Int32).toUInt32 &&& Int32.toUInt32 31)).toInt32
  (d + (d.toUInt32 >>> ((16 : Int32).toUInt32 &&& Int32.toUInt32 31)).toInt32) &&& 63
theorem pc_256 : ∀ m, m < 256 → pcI (nI m) = nI (cntR (bt (nI m)) 8) := by decide +kernel
def wayS (h : Nat) (b : Int32) : Bool := !decide (b < -1) && !decide (1 < b) && !((decide (b = 0) && decide (h = 0)) || (decide (b = 1) && decide (h = 7)))
section XA
variable {X : List Int32} {w : ab_W}
set_option maxRecDepth 100000 in
set_option maxHeartbeats 4000000 in
theorem x_isBelow (x : Int32) (m : Nat) (hm : m < 2 ^ 31) : ab_M X kX5_isBelow [.int x, .int (nI m)] w (some (.int (z01 (inN x m)))) w := by
  show ab_G X kX5_isBelow 0 [some (.int x), some (.int (nI m))] [] w _ _
  refine ab_s rfl ?_
  refine j1_lt rfl rfl (fun h1 => ?_) (fun h1 => ?_)
  · refine ab_k (y := 0) rfl rfl ?_
    exact ab_ri rfl (by first | (rw [inN_lt0 h1]; rfl) | (rw [inN_geN hm h6]; rfl) | (rw [inN_mid hm h1 h6]; rfl))
  · iterate 2 refine ab_s rfl ?_
    refine j2_ge rfl rfl (fun h6 => ?_) (fun h6 => ?_)
    · refine ab_k (y := 0) rfl rfl ?_
      exact ab_ri rfl (by first | (rw [inN_lt0 h1]; rfl) | (rw [inN_geN hm h6]; rfl) | (rw [inN_mid hm h1 h6]; rfl))
    · refine ab_k (y := 1) rfl rfl ?_
      refine ab_s rfl ?_
      exact ab_ri rfl (by first | (rw [inN_lt0 h1]; rfl) | (rw [inN_geN hm h6]; rfl) | (rw [inN_mid hm h1 h6]; rfl))
theorem x_isBelowN {j m : Nat} (hj : j < 2 ^ 31) (hm : m < 2 ^ 31) : ab_M X kX5_isBelow [.int (nI j), .int (nI m)] w (some (.int (z01 (decide (j < m))))) w := by
  have h := x_isBelow (X := X) (w := w) (nI j) m hm
  rw [inN_nI hj] at h
  exact h
set_option maxRecDepth 100000 in
set_option maxHeartbeats 4000000 in
theorem x_isIn (x : Int32) {j : Nat} (hj : j < 32) : ab_M X kX5_isIn [.int x, .int (nI j)] w (some (.int (z01 (bt x j)))) w := by
  show ab_G X kX5_isIn 0 [some (.int x), some (.int (nI j))] [] w _ _
  iterate 3 refine ab_s rfl ?_
  refine ab_k (y := 1) rfl rfl ?_
  refine ab_s rfl ?_
  refine ab_t (x := (x >>> (nI j &&& 31)) &&& 1) (b_one x hj) ?_
  cases bt x j
  · iterate 2 refine ab_s rfl ?_
    exact ab_ri rfl rfl
  · iterate 3 refine ab_s rfl ?_
    exact ab_ri rfl rfl
theorem x_isInB (p : Nat → Bool) {m j : Nat} (hm : m ≤ 32) (hj : j < m) : ab_M X kX5_isIn [.int (bs p m), .int (nI j)] w (some (.int (z01 (p j)))) w := by
  have h := x_isIn (X := X) (w := w) (bs p m) (show j < 32 by omega)
  rw [bt_bs _ _ _ hm (by omega), decide_eq_true hj, Bool.true_and] at h
  exact h
set_option maxRecDepth 100000 in
set_option maxHeartbeats 4000000 in
theorem x_marked (x : Int32) (f : Nat) (z : Bool) : ab_M X kX5_marked [.int x, .int (nI f), .int (z01 z)] w (some (.int (markI x f z))) w := by
  show ab_G X kX5_marked 0 [some (.int x), some (.int (nI f)), some (.int (z01 z))] [] w _ _
  refine ab_s rfl ?_
  refine z1_eq rfl rfl (fun h1 => ?_) (fun h1 => ?_)
  · refine ab_s rfl ?_
    refine ab_k (y := 1) rfl rfl ?_
    iterate 2 refine ab_s rfl ?_
    refine ab_k (y := (-1)) rfl rfl ?_
    iterate 2 refine ab_s rfl ?_
    exact ab_ri rfl (by rw [h1]; rfl)
  · refine ab_s rfl ?_
    refine ab_k (y := 1) rfl rfl ?_
    iterate 4 refine ab_s rfl ?_
    exact ab_ri rfl (by rw [h1]; rfl)
set_option maxRecDepth 100000 in
set_option maxHeartbeats 4000000 in
theorem x_cell {r : Nat} {xs : List Int32} (hw : w[r]? = some (.inr xs)) (hm : xs.length < 2 ^ 31) {j : Nat} (hj : j < xs.length) : ab_M X kX5_cell [.ref r, .int (nI j)] w (some (.int (xs.getD j 0))) w := by
  show ab_G X kX5_cell 0 [some (.ref r), some (.int (nI j))] [] w _ _
  refine ab_s rfl ?_
  refine jM_lt rfl rfl rfl rfl (by omega) (fun h1 => absurd h1 (by omega)) (fun h1 => ?_)
  iterate 2 refine ab_s rfl ?_
  refine ab_al rfl hw rfl ?_
  refine jN_lt rfl rfl rfl rfl (by omega) (by omega) (fun h7 => ?_) (fun h7 => absurd (hj) h7)
  iterate 2 refine ab_s rfl ?_
  refine ab_ia _ rfl hw (by omega) rfl (by omega) ?_
  exact ab_ri rfl rfl
set_option maxRecDepth 100000 in
set_option maxHeartbeats 4000000 in
theorem x_cellO {r : Nat} {xs : List Int32} (hw : w[r]? = some (.inr xs)) (hm : xs.length < 2 ^ 31) (i : Int32) (hi : inN i xs.length = false) : ab_M X kX5_cell [.ref r, .int i] w (some (.int 0)) w := by
  show ab_G X kX5_cell 0 [some (.ref r), some (.int i)] [] w _ _
  refine ab_s rfl ?_
  refine j1_lt rfl rfl (fun h1 => ?_) (fun h1 => ?_)
  · refine ab_k (y := 0) rfl rfl ?_
    refine ab_s rfl ?_
    exact ab_ri rfl rfl
  · iterate 2 refine ab_s rfl ?_
    refine ab_al rfl hw rfl ?_
    refine j2_lt rfl rfl (fun h7 => ?_) (fun h7 => ?_)
    · exact absurd (hi.symm.trans (inN_mid hm h1 (fun q => by rw [le_iff] at q; rw [lt_iff] at h7; omega))) (by decide)
    · refine ab_k (y := 0) rfl rfl ?_
      refine ab_s rfl ?_
      exact ab_ri rfl rfl
set_option maxRecDepth 100000 in
set_option maxHeartbeats 4000000 in
theorem x_cellA {j : Nat} (hj : j < 7) : ab_M X kX5_cell [.retAddr 1, .int (nI j)] w (some (.int (ab_above.getD j 0))) w := by
  show ab_G X kX5_cell 0 [some (.retAddr 1), some (.int (nI j))] [] w _ _
  refine ab_s rfl ?_
  refine jM_lt rfl rfl rfl rfl (by omega) (fun h1 => absurd h1 (by omega)) (fun h1 => ?_)
  iterate 3 refine ab_s rfl ?_
  refine jN_lt (b := 7) rfl rfl rfl rfl (by omega) (by omega) (fun h7 => ?_) (fun h7 => absurd (hj) h7)
  iterate 2 refine ab_s rfl ?_
  refine ab_ix _ rfl rfl (by decide) rfl (by show _ < 7; omega) ?_
  exact ab_ri rfl rfl
/-- a write into an array -/
theorem x_put {r : Nat} {xs : List Int32} (hw : w[r]? = some (.inr xs)) (hm : xs.length < 2 ^ 31) {j : Nat} (hj : j < xs.length) (x : Int32) : ab_Q X kX5_put [.ref r, .int (nI j), .int x] w (fun v w1 => v = none ∧ w1[r]? = some (.inr (xs.set j x)) ∧ ∀ i, i ≠ r → w1[i]? = w[i]?) := by
  show ab_H X kX5_put 0 [some (.ref r), some (.int (nI j)), some (.int x)] [] w _
  refine h_s rfl ?_
  refine hM_lt rfl rfl rfl rfl (by omega) (fun h1 => absurd h1 (by omega)) (fun h1 => ?_)
  iterate 2 refine h_s rfl ?_
  refine h_al rfl hw rfl ?_
  refine hN_ge rfl rfl rfl rfl (by omega) (by omega) (fun h7 => absurd h7 (by omega)) (fun h7 => ?_)
  iterate 3 refine h_s rfl ?_
  refine h_is j rfl hw hm rfl hj (fun w1 e1 f1 => ?_)
  exact h_r rfl ⟨rfl, e1, f1⟩
theorem x_putO {r : Nat} {xs : List Int32} (hw : w[r]? = some (.inr xs)) (hm : xs.length < 2 ^ 31) (i x : Int32) (hi : inN i xs.length = false) : ab_M X kX5_put [.ref r, .int i, .int x] w none w := by
  show ab_G X kX5_put 0 [some (.ref r), some (.int i), some (.int x)] [] w _ _
  refine ab_s rfl ?_
  refine j1_lt rfl rfl (fun h1 => ?_) (fun h1 => ?_)
  · exact ab_r rfl
  · iterate 2 refine ab_s rfl ?_
    refine ab_al rfl hw rfl ?_
    refine j2_ge rfl rfl (fun h7 => ?_) (fun h7 => ?_)
    · exact ab_r rfl
    · exact absurd (hi.symm.trans (inN_mid hm h1 h7)) (by decide)
theorem bs_rooms_t {q : Nat → Bool} {i : Nat} (h : q i = true) (r : Nat) : (decide (r / 2 < i + 1) && q (r / 2)) = ((decide (r / 2 < i) && q (r / 2)) || (decide (r = 2 * i) || decide (r = 2 * i + 1))) := by
  by_cases h1 : r / 2 = i
  · have : r = 2 * i ∨ r = 2 * i + 1 := by omega
    rw [h1, h]
    rcases this with e | e <;> simp [e]
  · have a1 : ¬ r = 2 * i := by omega
    have a2 : ¬ r = 2 * i + 1 := by omega
    have a3 : decide (r / 2 < i + 1) = decide (r / 2 < i) := decide_eq_decide.mpr (by omega)
    rw [a3, decide_eq_false a1, decide_eq_false a2, Bool.or_false, Bool.or_false]
theorem bs_rooms_f {q : Nat → Bool} {i : Nat} (h : q i = false) (r : Nat) : (decide (r / 2 < i + 1) && q (r / 2)) = (decide (r / 2 < i) && q (r / 2)) := by
  by_cases h1 : r / 2 = i
  · rw [h1, h, Bool.and_false, Bool.and_false]
  · rw [show decide (r / 2 < i + 1) = decide (r / 2 < i) from decide_eq_decide.mpr (by omega)]
set_option maxRecDepth 100000 in
set_option maxHeartbeats 4000000 in
theorem x_roomsOf (q : Nat → Bool) : ab_M X kX5_roomsOf [.int (bs q 8)] w (some (.int (bs (fun r => q (r / 2)) 16))) w := by
  show ab_G X kX5_roomsOf 0 [some (.int (bs q 8)), none, none] [] w _ _
  refine ab_k (y := 0) rfl rfl ?_
  refine ab_s rfl ?_
  refine ab_k (y := 0) rfl rfl ?_
  refine ab_s rfl ?_
  refine g_loop0 8 (fun i ls => ls = [some (.int (bs q 8)), some (.int (bs (fun r => decide (r / 2 < i) && q (r / 2)) 16)), some (.int (nI i))]) (by rw [show bs (fun r => decide (r / 2 < 0) && q (r / 2)) 16 = 0 from (bs_zero (by omega)).mpr (fun r _ => by simp)]; rfl) (fun i ls hi hJ ih => ?_) (fun ls hJ => ?_)
  · obtain rfl := hJ
    refine ab_s rfl ?_
    refine ab_k (y := 8) rfl rfl ?_
    refine jN_ge (b := 8) rfl rfl rfl rfl (by omega) (by omega) (fun h7 => absurd h7 (by omega)) (fun h7 => ?_)
    iterate 2 refine ab_s rfl ?_
    refine ab_c rfl (x_isInB q (by omega) hi) ?_
    refine ab_n (st2 := [_]) rfl ?_
    refine z1_eq rfl rfl (fun h15 => ?_) (fun h15 => ?_)
    · refine ab_ii rfl rfl rfl ?_
      refine ab_s rfl ?_
      exact ih _ (by rw [bs_cong (fun r _ => bs_rooms_f (i := i) h15 r)]; rfl)
    · refine ab_s rfl ?_
      refine ab_k (y := 3) rfl rfl ?_
      refine ab_k (y := 2) rfl rfl ?_
      refine ab_s rfl ?_
      refine ab_Nmul (a := 2) rfl rfl rfl ?_
      iterate 3 refine ab_s rfl ?_
      refine ab_ii rfl rfl rfl ?_
      refine ab_s rfl ?_
      exact ih _ (by rw [← bs_or3 (j := 2 * i) (by omega) (by omega) (fun r _ => bs_rooms_t (i := i) h15 r)]; rfl)
  · obtain rfl := hJ
    refine ab_s rfl ?_
    refine ab_k (y := 8) rfl rfl ?_
    refine jN_ge (b := 8) rfl rfl rfl rfl (by omega) (by omega) (fun h7 => ?_) (fun h7 => absurd (by omega) h7)
    refine ab_s rfl ?_
    exact ab_ri rfl (bs_cong (fun r hr => by rw [decide_eq_true (by omega), Bool.true_and]))
set_option maxRecDepth 100000 in
set_option maxHeartbeats 4000000 in
theorem x_isKind (x : Int32) : ab_M X kX0_isKind [.int x] w (some (.int (z01 (inN x 7)))) w := by
  show ab_G X kX0_isKind 0 [some (.int x)] [] w _ _
  iterate 3 refine ab_s rfl ?_
  refine ab_c rfl (x_isBelow x 7 (by omega)) ?_
  refine ab_n (st2 := [_]) rfl ?_
  exact ab_rz rfl rfl rfl
set_option maxRecDepth 100000 in
set_option maxHeartbeats 4000000 in
theorem x_isStair (h : Nat) (hh : h < 8) (b : Int32) : ab_M X kX5_isStair [.int (nI h), .int b] w (some (.int (z01 (wayS h b)))) w := by
  show ab_G X kX5_isStair 0 [some (.int (nI h)), some (.int b), none] [] w _ _
  refine ab_s rfl ?_
  refine j1_ne rfl rfl (fun h1 => ?_) (fun h1 => ?_)
  · refine ab_s rfl ?_
    refine ab_k (y := 1) rfl rfl ?_
    refine j2_ne rfl rfl (fun h10 => ?_) (fun h10 => ?_)
    · refine ab_k (y := 0) rfl rfl ?_
      iterate 2 refine ab_s rfl ?_
      refine ab_k (y := (-1)) rfl rfl ?_
      refine j2_lt rfl rfl (fun h27 => ?_) (fun h27 => ?_)
      · refine ab_k (y := 0) rfl rfl ?_
        exact ab_ri rfl (by first | (simp [wayS, z01, *]; done) | simp_all [wayS, z01])
      · refine ab_s rfl ?_
        refine ab_k (y := 1) rfl rfl ?_
        refine j2_gt rfl rfl (fun h32 => ?_) (fun h32 => ?_)
        · refine ab_k (y := 0) rfl rfl ?_
          exact ab_ri rfl (by first | (simp [wayS, z01, *]; done) | simp_all [wayS, z01])
        · iterate 2 refine ab_s rfl ?_
          refine ab_k (y := 1) rfl rfl ?_
          refine ab_s rfl ?_
          exact ab_ri rfl (by first | (simp [wayS, z01, *]; done) | simp_all [wayS, z01])
    · refine ab_s rfl ?_
      refine ab_k (y := 7) rfl rfl ?_
      refine jN_ne (b := 7) rfl rfl rfl rfl (by omega) (by omega) (fun h16 => ?_) (fun h16 => ?_)
      · refine ab_k (y := 0) rfl rfl ?_
        iterate 2 refine ab_s rfl ?_
        refine ab_k (y := (-1)) rfl rfl ?_
        refine j2_lt rfl rfl (fun h27 => ?_) (fun h27 => ?_)
        · refine ab_k (y := 0) rfl rfl ?_
          exact ab_ri rfl (by first | (simp [wayS, z01, *]; done) | simp_all [wayS, z01])
        · refine ab_s rfl ?_
          refine ab_k (y := 1) rfl rfl ?_
          refine j2_gt rfl rfl (fun h32 => ?_) (fun h32 => ?_)
          · refine ab_k (y := 0) rfl rfl ?_
            exact ab_ri rfl (by first | (simp [wayS, z01, *]; done) | simp_all [wayS, z01])
          · iterate 2 refine ab_s rfl ?_
            refine ab_k (y := 1) rfl rfl ?_
            refine ab_s rfl ?_
            exact ab_ri rfl (by first | (simp [wayS, z01, *]; done) | simp_all [wayS, z01])
      · refine ab_k (y := 1) rfl rfl ?_
        iterate 3 refine ab_s rfl ?_
        refine ab_k (y := (-1)) rfl rfl ?_
        refine j2_lt rfl rfl (fun h27 => ?_) (fun h27 => ?_)
        · refine ab_k (y := 0) rfl rfl ?_
          exact ab_ri rfl (by first | (simp [wayS, z01, *]; done) | simp_all [wayS, z01])
        · refine ab_s rfl ?_
          refine ab_k (y := 1) rfl rfl ?_
          refine j2_gt rfl rfl (fun h32 => ?_) (fun h32 => ?_)
          · refine ab_k (y := 0) rfl rfl ?_
            exact ab_ri rfl (by first | (simp [wayS, z01, *]; done) | simp_all [wayS, z01])
          · iterate 2 refine ab_s rfl ?_
            refine ab_k (y := 0) rfl rfl ?_
            exact ab_ri rfl (by first | (simp [wayS, z01, *]; done) | simp_all [wayS, z01])
  · refine ab_s rfl ?_
    refine jM_eq rfl rfl rfl rfl (by omega) (fun h5 => ?_) (fun h5 => ?_)
    · refine ab_k (y := 1) rfl rfl ?_
      iterate 3 refine ab_s rfl ?_
      refine ab_k (y := (-1)) rfl rfl ?_
      refine j2_lt rfl rfl (fun h27 => ?_) (fun h27 => ?_)
      · refine ab_k (y := 0) rfl rfl ?_
        exact ab_ri rfl (by first | (simp [wayS, z01, *]; done) | simp_all [wayS, z01])
      · refine ab_s rfl ?_
        refine ab_k (y := 1) rfl rfl ?_
        refine j2_gt rfl rfl (fun h32 => ?_) (fun h32 => ?_)
        · refine ab_k (y := 0) rfl rfl ?_
          exact ab_ri rfl (by first | (simp [wayS, z01, *]; done) | simp_all [wayS, z01])
        · iterate 2 refine ab_s rfl ?_
          refine ab_k (y := 0) rfl rfl ?_
          exact ab_ri rfl (by first | (simp [wayS, z01, *]; done) | simp_all [wayS, z01])
    · refine ab_s rfl ?_
      refine ab_k (y := 1) rfl rfl ?_
      refine j2_ne rfl rfl (fun h10 => ?_) (fun h10 => ?_)
      · refine ab_k (y := 0) rfl rfl ?_
        iterate 2 refine ab_s rfl ?_
        refine ab_k (y := (-1)) rfl rfl ?_
        refine j2_lt rfl rfl (fun h27 => ?_) (fun h27 => ?_)
        · refine ab_k (y := 0) rfl rfl ?_
          exact ab_ri rfl (by first | (simp [wayS, z01, *]; done) | simp_all [wayS, z01])
        · refine ab_s rfl ?_
          refine ab_k (y := 1) rfl rfl ?_
          refine j2_gt rfl rfl (fun h32 => ?_) (fun h32 => ?_)
          · refine ab_k (y := 0) rfl rfl ?_
            exact ab_ri rfl (by first | (simp [wayS, z01, *]; done) | simp_all [wayS, z01])
          · iterate 2 refine ab_s rfl ?_
            refine ab_k (y := 1) rfl rfl ?_
            refine ab_s rfl ?_
            exact ab_ri rfl (by first | (simp [wayS, z01, *]; done) | simp_all [wayS, z01])
      · refine ab_s rfl ?_
        refine ab_k (y := 7) rfl rfl ?_
        refine jN_ne (b := 7) rfl rfl rfl rfl (by omega) (by omega) (fun h16 => ?_) (fun h16 => ?_)
        · refine ab_k (y := 0) rfl rfl ?_
          iterate 2 refine ab_s rfl ?_
          refine ab_k (y := (-1)) rfl rfl ?_
          refine j2_lt rfl rfl (fun h27 => ?_) (fun h27 => ?_)
          · refine ab_k (y := 0) rfl rfl ?_
            exact ab_ri rfl (by first | (simp [wayS, z01, *]; done) | simp_all [wayS, z01])
          · refine ab_s rfl ?_
            refine ab_k (y := 1) rfl rfl ?_
            refine j2_gt rfl rfl (fun h32 => ?_) (fun h32 => ?_)
            · refine ab_k (y := 0) rfl rfl ?_
              exact ab_ri rfl (by first | (simp [wayS, z01, *]; done) | simp_all [wayS, z01])
            · iterate 2 refine ab_s rfl ?_
              refine ab_k (y := 1) rfl rfl ?_
              refine ab_s rfl ?_
              exact ab_ri rfl (by first | (simp [wayS, z01, *]; done) | simp_all [wayS, z01])
        · refine ab_k (y := 1) rfl rfl ?_
          iterate 3 refine ab_s rfl ?_
          refine ab_k (y := (-1)) rfl rfl ?_
          refine j2_lt rfl rfl (fun h27 => ?_) (fun h27 => ?_)
          · refine ab_k (y := 0) rfl rfl ?_
            exact ab_ri rfl (by first | (simp [wayS, z01, *]; done) | simp_all [wayS, z01])
          · refine ab_s rfl ?_
            refine ab_k (y := 1) rfl rfl ?_
            refine j2_gt rfl rfl (fun h32 => ?_) (fun h32 => ?_)
            · refine ab_k (y := 0) rfl rfl ?_
              exact ab_ri rfl (by first | (simp [wayS, z01, *]; done) | simp_all [wayS, z01])
            · iterate 2 refine ab_s rfl ?_
              refine ab_k (y := 0) rfl rfl ?_
              exact ab_ri rfl (by first | (simp [wayS, z01, *]; done) | simp_all [wayS, z01])
set_option maxRecDepth 100000 in
set_option maxHeartbeats 4000000 in
theorem x_bits (x : Int32) : ab_M X kJ6_bitCount_0f7a4 [.int x] w (some (.int (pcI x))) w := by
  show ab_G X kJ6_bitCount_0f7a4 0 [some (.int x)] [] w _ _
  iterate 2 refine ab_s rfl ?_
  refine ab_k (y := 1) rfl rfl ?_
  iterate 9 refine ab_s rfl ?_
  refine ab_k (y := 2) rfl rfl ?_
  iterate 7 refine ab_s rfl ?_
  refine ab_k (y := 4) rfl rfl ?_
  iterate 7 refine ab_s rfl ?_
  refine ab_k (y := 8) rfl rfl ?_
  iterate 5 refine ab_s rfl ?_
  refine ab_k (y := 16) rfl rfl ?_
  iterate 4 refine ab_s rfl ?_
  refine ab_k (y := 63) rfl rfl ?_
  refine ab_s rfl ?_
  exact ab_ri rfl rfl
theorem x_bitsB {p : Nat → Bool} {m : Nat} (hm : m ≤ 8) : ab_M X kJ6_bitCount_0f7a4 [.int (bs p m)] w (some (.int (nI (cntR p m)))) w := by
  obtain ⟨k, hk, e1, e2⟩ := ones_set (p := p) hm
  have h := x_bits (X := X) (w := w) (bs p m)
  rw [e1, pc_256 k hk, e2, ← e1] at h
  exact h
end XA
