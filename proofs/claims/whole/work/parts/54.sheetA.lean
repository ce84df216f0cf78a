/-! THE CLASS: sheets -/
theorem zeroN_D (nu : List Int32) (k : Nat) (hk : k < 4) (hl : nu.length = 160) {j : Nat} : ∀ i, i ≤ 40 → (zeroN nu k i).getD j 0 = if 40 * k ≤ j ∧ j < 40 * k + i then 0 else nu.getD j 0
  | 0, _ => by rw [if_neg (by omega)]; rfl
  | i + 1, h => by
    rw [zeroN, gD_set _ _ _ _ (by rw [zero_l]; omega), zeroN_D nu k hk hl i (by omega)]
    by_cases e : j = 40 * k + i
    · rw [if_pos e, if_pos (by omega)]
    · rw [if_neg e]
      by_cases e2 : 40 * k ≤ j ∧ j < 40 * k + i
      · rw [if_pos e2, if_pos (by omega)]
      · rw [if_neg e2, if_neg (by omega)]
/-- a range of a sheet -/
def rngB (z : Nat) (a m : Int32) : Bool := !decide (a < 0) && !decide (m < 0) && !decide (nI z < a) && !decide (nI z - a < m)
section XQ
variable {X : List Int32} {w w1 : ab_W} {r : Nat} {s : List Int32} {n : Nat} {st ks : List Int32} {kp : Bool} {tp : List Int32} {tn : Nat} {bo so nu : List Int32}
theorem SheetX.cell (T : SheetX w bo so nu) {k : Nat} (hk : k < 4) {b z : Int32} {xs : List Int32} {bo1 so1 nu1 : List Int32} (e1 : w1[46 + 2 * k]? = some (.inl (3, [.int b, .int z, .ref (47 + 2 * k)]))) (e2 : w1[47 + 2 * k]? = some (.inr xs)) (xl : xs.length = 40) (F : ∀ i, i ≠ 46 + 2 * k → i ≠ 47 + 2 * k → w1[i]? = w[i]?) (hb : ∀ j, bo1.getD j 0 = if j = k then b else bo.getD j 0) (hz : ∀ j, so1.getD j 0 = if j = k then z else so.getD j 0) (hx : ∀ j, j < 40 → xs.getD j 0 = nu1.getD (40 * k + j) 0) (hn : ∀ h j, h < 4 → h ≠ k → j < 40 → nu1.getD (40 * h + j) 0 = nu.getD (40 * h + j) 0) (l1 : bo1.length = 4) (l2 : so1.length = 4) (l3 : nu1.length = 160) : SheetX w1 bo1 so1 nu1 := by
  obtain ⟨a, b', c, d⟩ := T
  refine ⟨(F _ (by omega) (by omega)).trans a, fun h hh => ?_, fun h hh => ?_, l1, l2, l3⟩
  · by_cases e : h = k
    · subst e
      rw [e1, hb, hz, if_pos rfl, if_pos rfl]
    · rw [F _ (by omega) (by omega), b' h hh, hb, hz, if_neg e, if_neg e]
  · by_cases e : h = k
    · subst e
      exact ⟨xs, e2, xl, hx⟩
    · obtain ⟨ys, h1, h2, h3⟩ := c h hh
      exact ⟨ys, (F _ (by omega) (by omega)).trans h1, h2, fun j hj => by rw [h3 j hj, hn h j hh e hj]⟩
theorem XW.sheet (R : XW w s n st ks kp tp tn bo so nu) {bo1 so1 nu1 : List Int32} (T : SheetX w1 bo1 so1 nu1) (F : ∀ i, (i < 46 ∨ 54 ≤ i) → w1[i]? = w[i]?) : XW w1 s n st ks kp tp tn bo1 so1 nu1 := by
  obtain ⟨x0, XR, ⟨sd, nd, XD⟩, ⟨sk, nk, XK, hkp⟩, XPl, XT, XS, x45, xl⟩ := R
  exact ⟨(F 0 (by omega)).trans x0, XR.fr (fun i _ _ => F i (by omega)), ⟨sd, nd, XD.fr (fun i _ _ => F i (by omega))⟩, ⟨sk, nk, XK.fr (fun i _ _ => F i (by omega)), hkp⟩, XPl.fr (fun i _ _ => F i (by omega)), XT.fr (fun i _ _ => F i (by omega)), T, (F 45 (by omega)).trans x45, xl⟩
theorem sheet_g {k : Nat} (hk : k < 4) : ([.ref 46, .ref 48, .ref 50, .ref 52] : List Value)[k]? = some (.ref (46 + 2 * k)) := by
  rcases (show k = 0 ∨ k = 1 ∨ k = 2 ∨ k = 3 by omega) with rfl | rfl | rfl | rfl <;> rfl
set_option maxRecDepth 100000 in
set_option maxHeartbeats 4000000 in
theorem x_sheetAt (x0 : w[0]? = some (.inl (5, xObj kp))) (T : SheetX w bo so nu) {k : Nat} (hk : k < 4) : ab_M X kX5_sheetAt [.ref 0, .int (nI k)] w (some (.ref (46 + 2 * k))) w := by
  have s0 := T.1
  show ab_G X kX5_sheetAt 0 [some (.ref 0), some (.int (nI k))] [] w _ _
  refine ab_s rfl ?_
  refine jM_lt rfl rfl rfl rfl (by omega) (fun h1 => absurd h1 (by omega)) (fun h1 => ?_)
  iterate 2 refine ab_s rfl ?_
  refine ab_gf rfl rfl rfl x0 rfl ?_
  refine ab_alq (x := 4) rfl s0 rfl rfl ?_
  refine jN_lt (b := 4) rfl rfl rfl rfl (by omega) (by omega) (fun h10 => ?_) (fun h10 => absurd (by omega) h10)
  refine ab_s rfl ?_
  refine ab_gf rfl rfl rfl x0 rfl ?_
  refine ab_s rfl ?_
  refine ab_aq k rfl s0 rfl (by decide) rfl (sheet_g hk) ?_
  exact ab_r rfl
set_option maxRecDepth 100000 in
set_option maxHeartbeats 4000000 in
theorem x_sheetAtO (x0 : w[0]? = some (.inl (5, xObj kp))) (T : SheetX w bo so nu) (a : Int32) (ha : inN a 4 = false) : ab_M X kX5_sheetAt [.ref 0, .int a] w (some .null) w := by
  have s0 := T.1
  show ab_G X kX5_sheetAt 0 [some (.ref 0), some (.int a)] [] w _ _
  refine ab_s rfl ?_
  refine j1_lt rfl rfl (fun h1 => ?_) (fun h1 => ?_)
  · iterate 2 refine ab_s rfl ?_
    exact ab_r rfl
  · iterate 2 refine ab_s rfl ?_
    refine ab_gf rfl rfl rfl x0 rfl ?_
    refine ab_alq (x := 4) rfl s0 rfl rfl ?_
    refine j2_lt rfl rfl (fun h10 => ?_) (fun h10 => ?_)
    · exact absurd (ha.symm.trans (inN_mid (m := 4) (by decide) h1 (fun q => by rw [le_iff] at q; rw [lt_iff] at h10; exact absurd h10 (Int.not_lt.mpr q)))) (by decide)
    · iterate 2 refine ab_s rfl ?_
      exact ab_r rfl
end XQ
section XS
variable {X : List Int32} {w w1 : ab_W} {q p : Nat} {b z : Int32} {xs : List Int32}
set_option maxRecDepth 100000 in
set_option maxHeartbeats 4000000 in
theorem x_isMissing (hq : w[q]? = some (.inl (3, [.int b, .int z, .ref (p)]))) : ab_M X kX3_isMissing [.ref q] w (some (.int (z01 (decide (b = 0))))) w := by
  show ab_G X kX3_isMissing 0 [some (.ref q)] [] w _ _
  refine ab_s rfl ?_
  refine ab_gf rfl rfl rfl hq rfl ?_
  refine j1_ne rfl rfl (fun h4 => ?_) (fun h4 => ?_)
  · refine ab_k (y := 0) rfl rfl ?_
    exact ab_ri rfl (by rw [decide_eq_false h4]; rfl)
  · refine ab_k (y := 1) rfl rfl ?_
    refine ab_s rfl ?_
    exact ab_ri rfl (by rw [decide_eq_true h4]; rfl)
set_option maxRecDepth 100000 in
set_option maxHeartbeats 4000000 in
theorem x_hasRange {n : Nat} (hq : w[q]? = some (.inl (3, [.int b, .int (nI n), .ref (p)]))) (a m : Int32) : ab_M X kX3_hasRange [.ref q, .int a, .int m] w (some (.int (z01 (rngB n a m)))) w := by
  show ab_G X kX3_hasRange 0 [some (.ref q), some (.int a), some (.int m)] [] w _ _
  refine ab_s rfl ?_
  refine j1_lt rfl rfl (fun h1 => ?_) (fun h1 => ?_)
  · refine ab_k (y := 0) rfl rfl ?_
    exact ab_ri rfl (by unfold rngB; simp [z01, *])
  · refine ab_s rfl ?_
    refine j1_lt rfl rfl (fun h5 => ?_) (fun h5 => ?_)
    · refine ab_k (y := 0) rfl rfl ?_
      exact ab_ri rfl (by unfold rngB; simp [z01, *])
    · iterate 2 refine ab_s rfl ?_
      refine ab_gf rfl rfl rfl hq rfl ?_
      refine j2_gt rfl rfl (fun h13 => ?_) (fun h13 => ?_)
      · refine ab_k (y := 0) rfl rfl ?_
        exact ab_ri rfl (by unfold rngB; simp [z01, *])
      · iterate 2 refine ab_s rfl ?_
        refine ab_gf rfl rfl rfl hq rfl ?_
        iterate 2 refine ab_s rfl ?_
        refine j2_gt rfl rfl (fun h23 => ?_) (fun h23 => ?_)
        · refine ab_k (y := 0) rfl rfl ?_
          exact ab_ri rfl (by unfold rngB; simp [z01, *])
        · refine ab_k (y := 1) rfl rfl ?_
          refine ab_s rfl ?_
          exact ab_ri rfl (by unfold rngB; simp [z01, *])
set_option maxRecDepth 100000 in
set_option maxHeartbeats 4000000 in
theorem x_renewS (hq : w[q]? = some (.inl (3, [.int b, .int z, .ref (p)]))) (hx : w[p]? = some (.inr xs)) (hl : xs.length = 40) (hpq : p ≠ q) (bb m : Int32) : ab_Q X kX3_renew [.ref q, .int bb, .int m] w (fun v w1 => v = none ∧ w1[q]? = some (.inl (3, [.int bb, .int (if bb = 0 then 0 else m), .ref (p)])) ∧ (∃ ys, w1[p]? = some (.inr ys) ∧ ys.length = 40 ∧ ∀ j, j < 40 → ys.getD j 0 = 0) ∧ ∀ i, i ≠ q → i ≠ p → w1[i]? = w[i]?) := by
  show ab_H X kX3_renew 0 [some (.ref q), some (.int bb), some (.int m), none] [] w _
  by_cases hb0 : bb = 0
  · iterate 2 refine h_s rfl ?_
    refine h_pf rfl rfl hq rfl (fun w1 e1 f1 => ?_)
    have hq := e1
    have hx := (f1 p hpq).trans hx
    iterate 2 refine h_s rfl ?_
    refine h1_ne rfl rfl (fun h7 => absurd (hb0) h7) (fun h7 => ?_)
    refine h_k (y := 0) rfl rfl ?_
    refine h_s rfl ?_
    refine h_pf rfl rfl hq rfl (fun w2 e2 f2 => ?_)
    have hq := e2
    have hx := (f2 p hpq).trans hx
    refine h_k (y := 0) rfl rfl ?_
    refine h_s rfl ?_
    refine h_loop0 40 (fun i ls v => ls = [some (.ref q), some (.int bb), some (.int m), some (.int (nI i))] ∧ (∀ j, j ≠ p → v[j]? = w2[j]?) ∧ ∃ ys, v[p]? = some (.inr ys) ∧ ys.length = 40 ∧ ∀ j, j < i → ys.getD j 0 = 0) ⟨rfl, fun _ _ => rfl, xs, hx, hl, fun j hj => absurd hj (by omega)⟩ (fun i ls v hi hJ ih => ?_) (fun ls v hJ => ?_)
    · obtain ⟨rfl, F, ys, hx, hl, g⟩ := hJ
      have hq := (F q (fun e => hpq e.symm)).trans hq
      iterate 2 refine h_s rfl ?_
      refine h_gf rfl rfl rfl hq rfl ?_
      refine h_al rfl hx (by rw [hl]) ?_
      refine hN_ge (b := 40) rfl rfl rfl rfl (by omega) (by omega) (fun h26 => absurd h26 (by omega)) (fun h26 => ?_)
      refine h_s rfl ?_
      refine h_gf rfl rfl rfl hq rfl ?_
      refine h_s rfl ?_
      refine h_k (y := 0) rfl rfl ?_
      refine h_is i rfl hx (by omega) rfl (by omega) (fun w3 e3 f3 => ?_)
      refine h_ii rfl rfl rfl ?_
      refine h_s rfl ?_
      refine ih _ _ ⟨rfl, fun j hj => (f3 j hj).trans (F j hj), _, e3, by rw [List.length_set]; exact hl, fun j hj => ?_⟩
      rw [gD_set _ _ _ _ (by omega)]
      by_cases e : j = i
      · rw [if_pos e]
      · rw [if_neg e]
        exact g j (by omega)
    · obtain ⟨rfl, F, ys, hx, hl, g⟩ := hJ
      have hq := (F q (fun e => hpq e.symm)).trans hq
      iterate 2 refine h_s rfl ?_
      refine h_gf rfl rfl rfl hq rfl ?_
      refine h_al rfl hx (by rw [hl]) ?_
      refine hN_ge (b := 40) rfl rfl rfl rfl (by omega) (by omega) (fun h26 => ?_) (fun h26 => absurd (by omega) h26)
      exact h_r rfl ⟨rfl, hq.trans (by rw [if_pos hb0]; rfl), ⟨ys, hx, hl, g⟩, fun j h5 h6 => (F j h6).trans ((f2 j h5).trans (f1 j h5))⟩
  · iterate 2 refine h_s rfl ?_
    refine h_pf rfl rfl hq rfl (fun w1 e1 f1 => ?_)
    have hq := e1
    have hx := (f1 p hpq).trans hx
    iterate 2 refine h_s rfl ?_
    refine h1_ne rfl rfl (fun h7 => ?_) (fun h7 => absurd h7 (hb0))
    refine h_s rfl ?_
    refine h_pf rfl rfl hq rfl (fun w2 e2 f2 => ?_)
    have hq := e2
    have hx := (f2 p hpq).trans hx
    refine h_k (y := 0) rfl rfl ?_
    refine h_s rfl ?_
    refine h_loop0 40 (fun i ls v => ls = [some (.ref q), some (.int bb), some (.int m), some (.int (nI i))] ∧ (∀ j, j ≠ p → v[j]? = w2[j]?) ∧ ∃ ys, v[p]? = some (.inr ys) ∧ ys.length = 40 ∧ ∀ j, j < i → ys.getD j 0 = 0) ⟨rfl, fun _ _ => rfl, xs, hx, hl, fun j hj => absurd hj (by omega)⟩ (fun i ls v hi hJ ih => ?_) (fun ls v hJ => ?_)
    · obtain ⟨rfl, F, ys, hx, hl, g⟩ := hJ
      have hq := (F q (fun e => hpq e.symm)).trans hq
      iterate 2 refine h_s rfl ?_
      refine h_gf rfl rfl rfl hq rfl ?_
      refine h_al rfl hx (by rw [hl]) ?_
      refine hN_ge (b := 40) rfl rfl rfl rfl (by omega) (by omega) (fun h26 => absurd h26 (by omega)) (fun h26 => ?_)
      refine h_s rfl ?_
      refine h_gf rfl rfl rfl hq rfl ?_
      refine h_s rfl ?_
      refine h_k (y := 0) rfl rfl ?_
      refine h_is i rfl hx (by omega) rfl (by omega) (fun w3 e3 f3 => ?_)
      refine h_ii rfl rfl rfl ?_
      refine h_s rfl ?_
      refine ih _ _ ⟨rfl, fun j hj => (f3 j hj).trans (F j hj), _, e3, by rw [List.length_set]; exact hl, fun j hj => ?_⟩
      rw [gD_set _ _ _ _ (by omega)]
      by_cases e : j = i
      · rw [if_pos e]
      · rw [if_neg e]
        exact g j (by omega)
    · obtain ⟨rfl, F, ys, hx, hl, g⟩ := hJ
      have hq := (F q (fun e => hpq e.symm)).trans hq
      iterate 2 refine h_s rfl ?_
      refine h_gf rfl rfl rfl hq rfl ?_
      refine h_al rfl hx (by rw [hl]) ?_
      refine hN_ge (b := 40) rfl rfl rfl rfl (by omega) (by omega) (fun h26 => ?_) (fun h26 => absurd (by omega) h26)
      exact h_r rfl ⟨rfl, hq.trans (by rw [if_neg hb0]; rfl), ⟨ys, hx, hl, g⟩, fun j h5 h6 => (F j h6).trans ((f2 j h5).trans (f1 j h5))⟩
set_option maxRecDepth 100000 in
set_option maxHeartbeats 4000000 in
theorem x_setS (hq : w[q]? = some (.inl (3, [.int b, .int z, .ref (p)]))) (hx : w[p]? = some (.inr xs)) (hl : xs.length = 40) {i : Nat} (hi : i < 40) (v : Int32) : ab_Q X kX3_set [.ref q, .int (nI i), .int v] w (fun v1 w1 => v1 = none ∧ w1[p]? = some (.inr (xs.set i (narI b v))) ∧ ∀ j, j ≠ p → w1[j]? = w[j]?) := by
  show ab_H X kX3_set 0 [some (.ref q), some (.int (nI i)), some (.int v)] [] w _
  refine h_s rfl ?_
  refine h_gf rfl rfl rfl hq rfl ?_
  refine h_k (y := 8) rfl rfl ?_
  refine h2_ne rfl rfl (fun h6 => ?_) (fun h6 => ?_)
  · refine h_s rfl ?_
    refine h_gf rfl rfl rfl hq rfl ?_
    refine h_k (y := 16) rfl rfl ?_
    refine h2_ne rfl rfl (fun h28 => ?_) (fun h28 => ?_)
    · refine h_s rfl ?_
      refine h_gf rfl rfl rfl hq rfl ?_
      iterate 2 refine h_s rfl ?_
      refine hq_c rfl (x_put hx (by omega) (j := i) (by omega) _) (fun v1 w1 q1 => ?_)
      obtain ⟨rfl, e1, f1⟩ := q1
      refine h_n (st2 := []) rfl ?_
      exact h_r rfl ⟨rfl, by rw [e1]; unfold narI; rw [if_neg h6, if_neg h28], f1⟩
    · refine h_s rfl ?_
      refine h_gf rfl rfl rfl hq rfl ?_
      iterate 3 refine h_s rfl ?_
      refine hq_c rfl (x_put hx (by omega) (j := i) (by omega) _) (fun v1 w1 q1 => ?_)
      obtain ⟨rfl, e1, f1⟩ := q1
      refine h_n (st2 := []) rfl ?_
      refine h_s rfl ?_
      exact h_r rfl ⟨rfl, by rw [e1]; unfold narI; rw [if_neg h6, if_pos h28], f1⟩
  · refine h_s rfl ?_
    refine h_gf rfl rfl rfl hq rfl ?_
    iterate 3 refine h_s rfl ?_
    refine hq_c rfl (x_put hx (by omega) (j := i) (by omega) _) (fun v1 w1 q1 => ?_)
    obtain ⟨rfl, e1, f1⟩ := q1
    refine h_n (st2 := []) rfl ?_
    refine h_s rfl ?_
    exact h_r rfl ⟨rfl, by rw [e1]; unfold narI; rw [if_pos h6], f1⟩
end XS
