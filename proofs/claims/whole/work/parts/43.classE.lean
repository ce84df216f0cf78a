/-! THE CLASS: a row, sets and sums over its houses -/
theorem lvG_00 (s : List Int32) (f h : Nat) : lvG s 0 0 f h = fld s h 2 := by
  unfold lvG
  rw [b_0, if_neg (by decide), if_neg (by decide)]
/-- how many name whom -/
def pairN (s : List Int32) (n : Nat) : Nat → Nat
  | 0 => 0
  | i + 1 => pairN s n i + cntR (namB s n (fun h => decide (h = i))) n
theorem namB_cong {s : List Int32} {n g : Nat} {p q : Nat → Bool} (h : ∀ i, i < n → p i = q i) : namB s n p g = namB s n q g := anyR_cong (fun r hr => by rw [h r hr])
theorem wakeV_fld {s : List Int32} {h : Nat} {c : Int32} : wakeV s h c = wakeV s h c := rfl
/-- the noise that a room has -/
def wakR (s : List Int32) (n : Nat) (c : Int32) (r : Nat) : Int32 := if r / 2 < n ∧ r % 2 = 1 then wakeV s (r / 2) c else 0
section XF
variable {X : List Int32} {w : ab_W} {r n : Nat} {s : List Int32}
set_option maxRecDepth 100000 in
set_option maxHeartbeats 4000000 in
theorem x_admitting (R : RowW w r s n) (I : SI s n) {f : Nat} (hf : f < 8) (c em gi : Int32) : ab_M X kX2_admitting [.ref r, .int (nI f), .int c, .int em, .int gi] w (some (.int (bs (fun h => letV s h f c (lvG s em gi f h)) n))) w := by
  have R0 := R
  obtain ⟨r0, r1, r2, r3, r4, hl, h0, hn⟩ := R
  show ab_G X kX2_admitting 0 [some (.ref r), some (.int (nI f)), some (.int c), some (.int em), some (.int gi), none, none, none, none] [] w _ _
  refine ab_k (y := 0) rfl rfl ?_
  refine ab_s rfl ?_
  refine ab_k (y := 0) rfl rfl ?_
  refine ab_s rfl ?_
  refine g_loop0 n (fun i ls => ∃ x0, ∃ x1, ls = [some (.ref r), some (.int (nI f)), some (.int c), some (.int em), some (.int gi), some (.int (bs (fun h => letV s h f c (lvG s em gi f h)) i)), some (.int (nI i)), x0, x1]) ⟨none, none, rfl⟩ (fun i ls hi hJ ih => ?_) (fun ls hJ => ?_)
  · obtain ⟨x0, x1, rfl⟩ := hJ
    iterate 2 refine ab_s rfl ?_
    refine ab_gf rfl rfl rfl r0 rfl ?_
    refine jN_ge rfl rfl rfl rfl (by omega) (by omega) (fun h12 => absurd h12 (by omega)) (fun h12 => ?_)
    iterate 2 refine ab_s rfl ?_
    refine ab_cv rfl rfl rfl r0 rfl rfl (x_at R0 hi) ?_
    refine ab_n (st2 := [_]) rfl ?_
    iterate 5 refine ab_s rfl ?_
    refine ab_c rfl (x_isIn em (by omega)) ?_
    refine ab_n (st2 := [_]) rfl ?_
    refine z1_eq rfl rfl (fun h34 => ?_) (fun h34 => ?_)
    · refine ab_s rfl ?_
      refine ab_gf rfl rfl rfl (r3 _ (by omega)) rfl ?_
      iterate 3 refine ab_s rfl ?_
      refine ab_c rfl (x_isIn gi (by omega)) ?_
      refine ab_n (st2 := [_]) rfl ?_
      refine z1_eq rfl rfl (fun h55 => ?_) (fun h55 => ?_)
      · iterate 6 refine ab_s rfl ?_
        obtain ⟨kk, hk7, hk⟩ := (I.1 i hi).1
        refine ab_cv rfl rfl rfl (r3 i hi) rfl rfl (x_admits (r3 i hi) hf (by omega) hk7 hk c _) ?_
        refine ab_n (st2 := [_]) rfl ?_
        refine z1_eq rfl rfl (fun h80 => ?_) (fun h80 => ?_)
        · refine ab_ii rfl rfl rfl ?_
          refine ab_s rfl ?_
          have e : lvG s em gi f i = fld s i 2 := by
            unfold lvG
            rw [if_neg (by rw [h55]; decide), if_neg (by rw [h34]; decide)]
          exact ih _ ⟨_, _, by rw [bs_succ_f (p := fun h => letV s h f c (lvG s em gi f h)) (n := i) (by show letV s i f c (lvG s em gi f i) = false; rw [e]; exact h80)]; rfl⟩
        · refine ab_s rfl ?_
          refine ab_k (y := 1) rfl rfl ?_
          iterate 4 refine ab_s rfl ?_
          refine ab_ii rfl rfl rfl ?_
          refine ab_s rfl ?_
          have e : lvG s em gi f i = fld s i 2 := by
            unfold lvG
            rw [if_neg (by rw [h55]; decide), if_neg (by rw [h34]; decide)]
          exact ih _ ⟨_, _, by rw [← bs_succ_t (p := fun h => letV s h f c (lvG s em gi f h)) (n := i) (by show letV s i f c (lvG s em gi f i) = true; rw [e]; exact h80)]; rfl⟩
      · refine ab_s rfl ?_
        refine ab_k (y := 1) rfl rfl ?_
        iterate 9 refine ab_s rfl ?_
        obtain ⟨kk, hk7, hk⟩ := (I.1 i hi).1
        refine ab_cv rfl rfl rfl (r3 i hi) rfl rfl (x_admits (r3 i hi) hf (by omega) hk7 hk c _) ?_
        refine ab_n (st2 := [_]) rfl ?_
        refine z1_eq rfl rfl (fun h80 => ?_) (fun h80 => ?_)
        · refine ab_ii rfl rfl rfl ?_
          refine ab_s rfl ?_
          have e : lvG s em gi f i = (fld s i 2) ||| (1 : Int32) <<< (nI f &&& 31) := by
            unfold lvG
            rw [if_pos h55, if_neg (by rw [h34]; decide)]
          exact ih _ ⟨_, _, by rw [bs_succ_f (p := fun h => letV s h f c (lvG s em gi f h)) (n := i) (by show letV s i f c (lvG s em gi f i) = false; rw [e]; exact h80)]; rfl⟩
        · refine ab_s rfl ?_
          refine ab_k (y := 1) rfl rfl ?_
          iterate 4 refine ab_s rfl ?_
          refine ab_ii rfl rfl rfl ?_
          refine ab_s rfl ?_
          have e : lvG s em gi f i = (fld s i 2) ||| (1 : Int32) <<< (nI f &&& 31) := by
            unfold lvG
            rw [if_pos h55, if_neg (by rw [h34]; decide)]
          exact ih _ ⟨_, _, by rw [← bs_succ_t (p := fun h => letV s h f c (lvG s em gi f h)) (n := i) (by show letV s i f c (lvG s em gi f i) = true; rw [e]; exact h80)]; rfl⟩
    · refine ab_k (y := 0) rfl rfl ?_
      iterate 4 refine ab_s rfl ?_
      refine ab_c rfl (x_isIn gi (by omega)) ?_
      refine ab_n (st2 := [_]) rfl ?_
      refine z1_eq rfl rfl (fun h55 => ?_) (fun h55 => ?_)
      · iterate 6 refine ab_s rfl ?_
        obtain ⟨kk, hk7, hk⟩ := (I.1 i hi).1
        refine ab_cv rfl rfl rfl (r3 i hi) rfl rfl (x_admits (r3 i hi) hf (by omega) hk7 hk c _) ?_
        refine ab_n (st2 := [_]) rfl ?_
        refine z1_eq rfl rfl (fun h80 => ?_) (fun h80 => ?_)
        · refine ab_ii rfl rfl rfl ?_
          refine ab_s rfl ?_
          have e : lvG s em gi f i = 0 := by
            unfold lvG
            rw [if_neg (by rw [h55]; decide), if_pos h34]
          exact ih _ ⟨_, _, by rw [bs_succ_f (p := fun h => letV s h f c (lvG s em gi f h)) (n := i) (by show letV s i f c (lvG s em gi f i) = false; rw [e]; exact h80)]; rfl⟩
        · refine ab_s rfl ?_
          refine ab_k (y := 1) rfl rfl ?_
          iterate 4 refine ab_s rfl ?_
          refine ab_ii rfl rfl rfl ?_
          refine ab_s rfl ?_
          have e : lvG s em gi f i = 0 := by
            unfold lvG
            rw [if_neg (by rw [h55]; decide), if_pos h34]
          exact ih _ ⟨_, _, by rw [← bs_succ_t (p := fun h => letV s h f c (lvG s em gi f h)) (n := i) (by show letV s i f c (lvG s em gi f i) = true; rw [e]; exact h80)]; rfl⟩
      · refine ab_s rfl ?_
        refine ab_k (y := 1) rfl rfl ?_
        iterate 9 refine ab_s rfl ?_
        obtain ⟨kk, hk7, hk⟩ := (I.1 i hi).1
        refine ab_cv rfl rfl rfl (r3 i hi) rfl rfl (x_admits (r3 i hi) hf (by omega) hk7 hk c _) ?_
        refine ab_n (st2 := [_]) rfl ?_
        refine z1_eq rfl rfl (fun h80 => ?_) (fun h80 => ?_)
        · refine ab_ii rfl rfl rfl ?_
          refine ab_s rfl ?_
          have e : lvG s em gi f i = (0) ||| (1 : Int32) <<< (nI f &&& 31) := by
            unfold lvG
            rw [if_pos h55, if_pos h34]
          exact ih _ ⟨_, _, by rw [bs_succ_f (p := fun h => letV s h f c (lvG s em gi f h)) (n := i) (by show letV s i f c (lvG s em gi f i) = false; rw [e]; exact h80)]; rfl⟩
        · refine ab_s rfl ?_
          refine ab_k (y := 1) rfl rfl ?_
          iterate 4 refine ab_s rfl ?_
          refine ab_ii rfl rfl rfl ?_
          refine ab_s rfl ?_
          have e : lvG s em gi f i = (0) ||| (1 : Int32) <<< (nI f &&& 31) := by
            unfold lvG
            rw [if_pos h55, if_pos h34]
          exact ih _ ⟨_, _, by rw [← bs_succ_t (p := fun h => letV s h f c (lvG s em gi f h)) (n := i) (by show letV s i f c (lvG s em gi f i) = true; rw [e]; exact h80)]; rfl⟩
  · obtain ⟨x0, x1, rfl⟩ := hJ
    iterate 2 refine ab_s rfl ?_
    refine ab_gf rfl rfl rfl r0 rfl ?_
    refine jN_ge rfl rfl rfl rfl (by omega) (by omega) (fun h12 => ?_) (fun h12 => absurd (by omega) h12)
    refine ab_s rfl ?_
    exact ab_ri rfl rfl
set_option maxRecDepth 100000 in
set_option maxHeartbeats 4000000 in
theorem x_wakesIn (R : RowW w r s n) {m : Nat} (hm : m < 16) (c : Int32) : ab_M X kX2_wakesIn [.ref r, .int (nI m), .int c] w (some (.int (wakR s n c m))) w := by
  have R0 := R
  obtain ⟨r0, r1, r2, r3, r4, hl, h0, hn⟩ := R
  show ab_G X kX2_wakesIn 0 [some (.ref r), some (.int (nI m)), some (.int c), none] [] w _ _
  by_cases hmn : m / 2 < n
  · iterate 2 refine ab_s rfl ?_
    refine ab_k (y := 2) rfl rfl ?_
    refine ab_Ndiv (b := 2) rfl rfl rfl (by omega) (by omega) (by omega) ?_
    refine ab_cv rfl rfl rfl r0 rfl rfl (x_at R0 hmn) ?_
    refine ab_n (st2 := [_]) rfl ?_
    iterate 4 refine ab_s rfl ?_
    refine ab_k (y := 2) rfl rfl ?_
    refine ab_Nrem (b := 2) rfl rfl rfl (by omega) (by omega) (by omega) ?_
    refine jM_ne rfl rfl rfl rfl (by omega) (fun h15 => ?_) (fun h15 => ?_)
    · iterate 2 refine ab_s rfl ?_
      refine ab_cv rfl rfl rfl (r3 _ hmn) rfl rfl (x_wakes (r3 _ hmn) c) ?_
      refine ab_n (st2 := [_]) rfl ?_
      exact ab_ri rfl (by unfold wakR; rw [if_pos ⟨hmn, by omega⟩])
    · refine ab_k (y := 0) rfl rfl ?_
      refine ab_s rfl ?_
      exact ab_ri rfl (by unfold wakR; rw [if_neg (fun q => by omega)])
  · iterate 2 refine ab_s rfl ?_
    refine ab_k (y := 2) rfl rfl ?_
    refine ab_Ndiv (b := 2) rfl rfl rfl (by omega) (by omega) (by omega) ?_
    refine ab_cv rfl rfl rfl r0 rfl rfl (x_atO R0 (nI (m / 2)) (by rw [inN_nI (by omega)]; exact decide_eq_false hmn)) ?_
    refine ab_n (st2 := [_]) rfl ?_
    iterate 3 refine ab_s rfl ?_
    refine ab_k (y := 0) rfl rfl ?_
    refine ab_s rfl ?_
    exact ab_ri rfl (by unfold wakR; rw [if_neg (fun q => hmn q.1)])
set_option maxRecDepth 100000 in
set_option maxHeartbeats 4000000 in
theorem x_named (R : RowW w r s n) (I : SI s n) (x : Int32) : ab_M X kX2_named [.ref r, .int x] w (some (.int (bs (namB s n (bt x)) n))) w := by
  have R0 := R
  obtain ⟨r0, r1, r2, r3, r4, hl, h0, hn⟩ := R
  show ab_G X kX2_named 0 [some (.ref r), some (.int x), none, none, none] [] w _ _
  refine ab_k (y := 0) rfl rfl ?_
  refine ab_s rfl ?_
  refine ab_k (y := 0) rfl rfl ?_
  refine ab_s rfl ?_
  refine g_loop0 n (fun i ls => ∃ x0, ls = [some (.ref r), some (.int x), some (.int (bs (namB s i (bt x)) 8)), some (.int (nI i)), x0]) ⟨none, by rw [show bs (namB s 0 (bt x)) 8 = 0 from (bs_zero (by omega)).mpr (fun _ _ => rfl)]; rfl⟩ (fun i ls hi hJ ih => ?_) (fun ls hJ => ?_)
  · obtain ⟨x0, rfl⟩ := hJ
    iterate 2 refine ab_s rfl ?_
    refine ab_gf rfl rfl rfl r0 rfl ?_
    refine jN_ge rfl rfl rfl rfl (by omega) (by omega) (fun h9 => absurd h9 (by omega)) (fun h9 => ?_)
    iterate 2 refine ab_s rfl ?_
    refine ab_cv rfl rfl rfl r0 rfl rfl (x_at R0 hi) ?_
    refine ab_n (st2 := [_]) rfl ?_
    iterate 5 refine ab_s rfl ?_
    refine ab_c rfl (x_isIn x (by omega)) ?_
    refine ab_n (st2 := [_]) rfl ?_
    refine z1_eq rfl rfl (fun h29 => ?_) (fun h29 => ?_)
    · refine ab_ii rfl rfl rfl ?_
      refine ab_s rfl ?_
      exact ih _ ⟨_, by rw [← nam_same h29]; rfl⟩
    · iterate 2 refine ab_s rfl ?_
      refine ab_gf rfl rfl rfl (r3 _ (by omega)) rfl ?_
      refine ab_k (y := 1) rfl rfl ?_
      iterate 2 refine ab_s rfl ?_
      refine ab_k (y := (-1)) rfl rfl ?_
      iterate 4 refine ab_s rfl ?_
      refine ab_ii rfl rfl rfl ?_
      refine ab_s rfl ?_
      exact ih _ ⟨_, by rw [← nam_next (I.1 i hi).2.2.1 (by omega) h29]; rfl⟩
  · obtain ⟨x0, rfl⟩ := hJ
    iterate 2 refine ab_s rfl ?_
    refine ab_gf rfl rfl rfl r0 rfl ?_
    refine jN_ge rfl rfl rfl rfl (by omega) (by omega) (fun h9 => ?_) (fun h9 => absurd (by omega) h9)
    refine ab_s rfl ?_
    refine ab_k (y := 1) rfl rfl ?_
    refine ab_s rfl ?_
    refine ab_gf rfl rfl rfl r0 rfl ?_
    refine ab_s rfl ?_
    refine ab_k (y := 1) rfl rfl ?_
    iterate 2 refine ab_s rfl ?_
    exact ab_ri rfl (by show bs (namB s n (bt x)) 8 &&& (((1 : Int32) <<< (nI n &&& 31)) - 1) = _; rw [mask_n n hn, bs_mask hn])
set_option maxRecDepth 100000 in
set_option maxHeartbeats 4000000 in
theorem x_pairs (R : RowW w r s n) (I : SI s n) : ab_M X kX2_pairs [.ref r] w (some (.int (nI (pairN s n n)))) w := by
  have R0 := R
  obtain ⟨r0, r1, r2, r3, r4, hl, h0, hn⟩ := R
  show ab_G X kX2_pairs 0 [some (.ref r), none, none] [] w _ _
  refine ab_k (y := 0) rfl rfl ?_
  refine ab_s rfl ?_
  refine ab_k (y := 0) rfl rfl ?_
  refine ab_s rfl ?_
  refine g_loop0 n (fun i ls => ls = [some (.ref r), some (.int (nI (pairN s n i))), some (.int (nI i))]) rfl (fun i ls hi hJ ih => ?_) (fun ls hJ => ?_)
  · obtain rfl := hJ
    iterate 2 refine ab_s rfl ?_
    refine ab_gf rfl rfl rfl r0 rfl ?_
    refine jN_ge rfl rfl rfl rfl (by omega) (by omega) (fun h9 => absurd h9 (by omega)) (fun h9 => ?_)
    iterate 2 refine ab_s rfl ?_
    refine ab_k (y := 1) rfl rfl ?_
    iterate 2 refine ab_s rfl ?_
    refine ab_cv rfl rfl rfl r0 rfl rfl (x_named R0 I ((1 : Int32) <<< (nI i &&& 31))) ?_
    refine ab_t (y := bs (namB s n (fun h => decide (h = i))) n) (bs_cong (fun g _ => namB_cong (fun h hh => b_sh (by omega) (by omega)))) ?_
    refine ab_n (st2 := [_, _]) rfl ?_
    refine ab_c rfl (x_bitsB hn) ?_
    refine ab_n (st2 := [_, _]) rfl ?_
    refine ab_Nadd rfl rfl rfl ?_
    refine ab_s rfl ?_
    refine ab_ii rfl rfl rfl ?_
    refine ab_s rfl ?_
    exact ih _ rfl
  · obtain rfl := hJ
    iterate 2 refine ab_s rfl ?_
    refine ab_gf rfl rfl rfl r0 rfl ?_
    refine jN_ge rfl rfl rfl rfl (by omega) (by omega) (fun h9 => ?_) (fun h9 => absurd (by omega) h9)
    refine ab_s rfl ?_
    exact ab_ri rfl rfl
set_option maxRecDepth 100000 in
set_option maxHeartbeats 4000000 in
theorem x_sleepingIn (R : RowW w r s n) (x : Int32) : ab_M X kX2_sleepingIn [.ref r, .int x] w (some (.int (bs (fun f => decide (fld s f 7 = x)) n))) w := by
  have R0 := R
  obtain ⟨r0, r1, r2, r3, r4, hl, h0, hn⟩ := R
  show ab_G X kX2_sleepingIn 0 [some (.ref r), some (.int x), none, none] [] w _ _
  refine ab_k (y := 0) rfl rfl ?_
  refine ab_s rfl ?_
  refine ab_k (y := 0) rfl rfl ?_
  refine ab_s rfl ?_
  refine g_loop0 n (fun i ls => ls = [some (.ref r), some (.int x), some (.int (bs (fun f => decide (fld s f 7 = x)) i)), some (.int (nI i))]) rfl (fun i ls hi hJ ih => ?_) (fun ls hJ => ?_)
  · obtain rfl := hJ
    iterate 2 refine ab_s rfl ?_
    refine ab_gf rfl rfl rfl r0 rfl ?_
    refine jN_ge rfl rfl rfl rfl (by omega) (by omega) (fun h9 => absurd h9 (by omega)) (fun h9 => ?_)
    iterate 2 refine ab_s rfl ?_
    refine ab_cv rfl rfl rfl r0 rfl rfl (x_bedOf R0 hi) ?_
    refine ab_n (st2 := [_]) rfl ?_
    refine ab_s rfl ?_
    refine j2_ne rfl rfl (fun h18 => ?_) (fun h18 => ?_)
    · refine ab_ii rfl rfl rfl ?_
      refine ab_s rfl ?_
      exact ih _ (by rw [bs_succ_f (p := fun f => decide (fld s f 7 = x)) (n := i) (decide_eq_false h18)]; rfl)
    · refine ab_s rfl ?_
      refine ab_k (y := 1) rfl rfl ?_
      iterate 4 refine ab_s rfl ?_
      refine ab_ii rfl rfl rfl ?_
      refine ab_s rfl ?_
      exact ih _ (by rw [← bs_succ_t (p := fun f => decide (fld s f 7 = x)) (n := i) (decide_eq_true h18)]; rfl)
  · obtain rfl := hJ
    iterate 2 refine ab_s rfl ?_
    refine ab_gf rfl rfl rfl r0 rfl ?_
    refine jN_ge rfl rfl rfl rfl (by omega) (by omega) (fun h9 => ?_) (fun h9 => absurd (by omega) h9)
    refine ab_s rfl ?_
    exact ab_ri rfl rfl
set_option maxRecDepth 100000 in
set_option maxHeartbeats 4000000 in
theorem x_countStairs (R : RowW w r s n)  : ab_M X kX2_countStairs [.ref r] w (some (.int (nI (cntR (fun h => decide (0 ≤ fld s h 1)) n)))) w := by
  have R0 := R
  obtain ⟨r0, r1, r2, r3, r4, hl, h0, hn⟩ := R
  show ab_G X kX2_countStairs 0 [some (.ref r), none, none] [] w _ _
  refine ab_k (y := 0) rfl rfl ?_
  refine ab_s rfl ?_
  refine ab_k (y := 0) rfl rfl ?_
  refine ab_s rfl ?_
  refine g_loop0 n (fun i ls => ls = [some (.ref r), some (.int (nI (cntR (fun h => decide (0 ≤ fld s h 1)) i))), some (.int (nI i))]) rfl (fun i ls hi hJ ih => ?_) (fun ls hJ => ?_)
  · obtain rfl := hJ
    iterate 2 refine ab_s rfl ?_
    refine ab_gf rfl rfl rfl r0 rfl ?_
    refine jN_ge rfl rfl rfl rfl (by omega) (by omega) (fun h9 => absurd h9 (by omega)) (fun h9 => ?_)
    iterate 3 refine ab_s rfl ?_
    refine ab_cv rfl rfl rfl r0 rfl rfl (x_stairOf R0 hi) ?_
    refine ab_n (st2 := [_, _]) rfl ?_
    refine j1_lt rfl rfl (fun h18 => ?_) (fun h18 => ?_)
    · refine ab_k (y := 0) rfl rfl ?_
      iterate 2 refine ab_s rfl ?_
      refine ab_ii rfl rfl rfl ?_
      refine ab_s rfl ?_
      exact ih _ (by rw [← cnt_f (p := fun h => decide (0 ≤ fld s h 1)) (decide_eq_false (fun q => (Int32.not_lt.mpr q) h18))]; rfl)
    · refine ab_k (y := 1) rfl rfl ?_
      iterate 3 refine ab_s rfl ?_
      refine ab_ii rfl rfl rfl ?_
      refine ab_s rfl ?_
      exact ih _ (by rw [← cnt_t (p := fun h => decide (0 ≤ fld s h 1)) (decide_eq_true (Int32.not_lt.mp h18))]; rfl)
  · obtain rfl := hJ
    iterate 2 refine ab_s rfl ?_
    refine ab_gf rfl rfl rfl r0 rfl ?_
    refine jN_ge rfl rfl rfl rfl (by omega) (by omega) (fun h9 => ?_) (fun h9 => absurd (by omega) h9)
    refine ab_s rfl ?_
    exact ab_ri rfl rfl
set_option maxRecDepth 100000 in
set_option maxHeartbeats 4000000 in
theorem x_countSleepers (R : RowW w r s n)  : ab_M X kX2_countSleepers [.ref r] w (some (.int (sumI (fun h => fld s h 6) n))) w := by
  have R0 := R
  obtain ⟨r0, r1, r2, r3, r4, hl, h0, hn⟩ := R
  show ab_G X kX2_countSleepers 0 [some (.ref r), none, none, none] [] w _ _
  refine ab_k (y := 0) rfl rfl ?_
  refine ab_s rfl ?_
  refine ab_k (y := 0) rfl rfl ?_
  refine ab_s rfl ?_
  refine g_loop0 n (fun i ls => ∃ x0, ls = [some (.ref r), some (.int (sumI (fun h => fld s h 6) i)), some (.int (nI i)), x0]) ⟨none, rfl⟩ (fun i ls hi hJ ih => ?_) (fun ls hJ => ?_)
  · obtain ⟨x0, rfl⟩ := hJ
    iterate 2 refine ab_s rfl ?_
    refine ab_gf rfl rfl rfl r0 rfl ?_
    refine jN_ge rfl rfl rfl rfl (by omega) (by omega) (fun h9 => absurd h9 (by omega)) (fun h9 => ?_)
    iterate 2 refine ab_s rfl ?_
    refine ab_cv rfl rfl rfl r0 rfl rfl (x_at R0 hi) ?_
    refine ab_n (st2 := [_]) rfl ?_
    iterate 5 refine ab_s rfl ?_
    refine ab_gf rfl rfl rfl (r3 _ (by omega)) rfl ?_
    iterate 2 refine ab_s rfl ?_
    refine ab_ii rfl rfl rfl ?_
    refine ab_s rfl ?_
    exact ih _ ⟨_, rfl⟩
  · obtain ⟨x0, rfl⟩ := hJ
    iterate 2 refine ab_s rfl ?_
    refine ab_gf rfl rfl rfl r0 rfl ?_
    refine jN_ge rfl rfl rfl rfl (by omega) (by omega) (fun h9 => ?_) (fun h9 => absurd (by omega) h9)
    refine ab_s rfl ?_
    exact ab_ri rfl rfl
theorem sp_g (s : List Int32) (k : Nat) : (s.drop 80).getD k 0 = s.getD (80 + k) 0 := by
  rw [List.getD_eq_getElem?_getD, List.getD_eq_getElem?_getD, List.getElem?_drop]
set_option maxRecDepth 100000 in
set_option maxHeartbeats 4000000 in
theorem x_countHeld (R : RowW w r s n)  : ab_M X kX2_countHeld [.ref r] w (some (.int (nI (cntR (fun k => decide (0 ≤ s.getD (80 + k) 0)) 10)))) w := by
  have R0 := R
  obtain ⟨r0, r1, r2, r3, r4, hl, h0, hn⟩ := R
  show ab_G X kX2_countHeld 0 [some (.ref r), none, none] [] w _ _
  refine ab_k (y := 0) rfl rfl ?_
  refine ab_s rfl ?_
  refine ab_k (y := 0) rfl rfl ?_
  refine ab_s rfl ?_
  refine g_loop0 10 (fun i ls => ls = [some (.ref r), some (.int (nI (cntR (fun k => decide (0 ≤ s.getD (80 + k) 0)) i))), some (.int (nI i))]) rfl (fun i ls hi hJ ih => ?_) (fun ls hJ => ?_)
  · obtain rfl := hJ
    iterate 2 refine ab_s rfl ?_
    refine ab_gf rfl rfl rfl r0 rfl ?_
    refine ab_al (x := 10) rfl r2 (by rw [List.length_drop, hl]; rfl) ?_
    refine jN_ge (b := 10) rfl rfl rfl rfl (by omega) (by omega) (fun h10 => absurd h10 (by omega)) (fun h10 => ?_)
    iterate 2 refine ab_s rfl ?_
    refine ab_gf rfl rfl rfl r0 rfl ?_
    refine ab_s rfl ?_
    refine ab_ia i rfl r2 (by rw [List.length_drop]; omega) rfl (by rw [List.length_drop]; omega) ?_
    refine ab_t (sp_g s i) ?_
    refine j1_lt rfl rfl (fun h20 => ?_) (fun h20 => ?_)
    · refine ab_k (y := 0) rfl rfl ?_
      iterate 2 refine ab_s rfl ?_
      refine ab_ii rfl rfl rfl ?_
      refine ab_s rfl ?_
      exact ih _ (by rw [← cnt_f (p := (fun k => decide (0 ≤ s.getD (80 + k) 0))) (decide_eq_false (fun q => (Int32.not_lt.mpr q) h20))]; rfl)
    · refine ab_k (y := 1) rfl rfl ?_
      iterate 3 refine ab_s rfl ?_
      refine ab_ii rfl rfl rfl ?_
      refine ab_s rfl ?_
      exact ih _ (by rw [← cnt_t (p := (fun k => decide (0 ≤ s.getD (80 + k) 0))) (decide_eq_true (Int32.not_lt.mp h20))]; rfl)
  · obtain rfl := hJ
    iterate 2 refine ab_s rfl ?_
    refine ab_gf rfl rfl rfl r0 rfl ?_
    refine ab_al (x := 10) rfl r2 (by rw [List.length_drop, hl]; rfl) ?_
    refine jN_ge (b := 10) rfl rfl rfl rfl (by omega) (by omega) (fun h10 => ?_) (fun h10 => absurd (by omega) h10)
    refine ab_s rfl ?_
    exact ab_ri rfl rfl
end XF
