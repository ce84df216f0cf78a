/-! THE CLASS: sheet, write, load, judge -/
theorem min_n {z n : Nat} (hz : z < 2 ^ 31) (hn : n < 2 ^ 31) : (if nI n < nI z then nI n else nI z) = nI (min z n) := by
  by_cases h : n < z
  · rw [if_pos ((nI_ltI hn hz).mpr h), show min z n = n by omega]
  · rw [if_neg (fun q => h ((nI_ltI hn hz).mp q)), show min z n = z by omega]
theorem mayB_lt {s : List Int32} {n f : Nat} {c : Int32} {x : Nat → Int32} {i r : Nat} (h : mayB s n f c x i r = true) : r < 2 * n := by
  cases i with
  | zero => unfold mayB at h; simp only [Bool.and_eq_true] at h; exact opB_lt h.2
  | succ i => unfold mayB at h; simp only [Bool.and_eq_true] at h; exact opB_lt h.2
theorem load_set {s nu : List Int32} {k i : Nat} : loadS s nu k (i + 1) = (loadS s nu k i).set (2 + 8 * i + 2) (nu.getD (40 * k + i) 0 &&& 255) := rfl
section XT
variable {X : List Int32} {w w1 : ab_W} {r : Nat} {s : List Int32} {n : Nat} {st ks : List Int32} {kp : Bool} {tp : List Int32} {tn : Nat} {bo so nu : List Int32}
set_option maxRecDepth 100000 in
set_option maxHeartbeats 4000000 in
theorem x_sh41s (R : XW w s n st ks kp tp tn bo so nu) (k : Nat) (hk : k < 4) (b : Int32) (c : Int32) (hc : c < 0) : ab_H X kX5_sheet 41 [some (.ref 0), some (.int (nI k)), some (.int b), some (.int c), some (.ref (46 + 2 * k))] [] w (XP w (-1000007) s n (bump st 6) ks kp tp tn bo so nu) := by
  have R0 := R
  obtain ⟨x0, XR, ⟨sd, nd, XD⟩, ⟨sk, nk, XK, hkp⟩, XPl, XT, XS, x45, xl⟩ := R
  have r0 := XR.1
  have p0 := XPl.1
  have d0 := XD.1
  have hn : n ≤ 8 := XR.2.2.2.2.2.2.2
  have RC := R0
  have hq := XS.2.1 k hk
  obtain ⟨xs, hx, hl, hg⟩ := XS.2.2.1 k hk
  refine h_s rfl ?_
  refine h1_ge rfl rfl (fun h42 => absurd h42 (fun q => absurd q (Int32.not_le.mpr hc))) (fun h42 => ?_)
  refine h_s rfl ?_
  refine h_k (y := (-1000007)) rfl rfl ?_
  refine hq_v rfl rfl rfl x0 rfl rfl (x_found RC 6 (by omega) _ (by decide)) (fun v9 w9 q9 => ?_)
  obtain ⟨rfl, q2, q3⟩ := q9
  refine h_n (st2 := [_]) rfl ?_
  exact h_ri rfl rfl ⟨rfl, q2, q3⟩
set_option maxRecDepth 100000 in
set_option maxHeartbeats 4000000 in
theorem x_sh41m (R : XW w s n st ks kp tp tn bo so nu) (k : Nat) (hk : k < 4) (b : Int32) (c : Int32) (hc : 40 < c) : ab_H X kX5_sheet 41 [some (.ref 0), some (.int (nI k)), some (.int b), some (.int c), some (.ref (46 + 2 * k))] [] w (XP w (-1000001) s n (bump st 0) ks kp tp tn bo so nu) := by
  have R0 := R
  obtain ⟨x0, XR, ⟨sd, nd, XD⟩, ⟨sk, nk, XK, hkp⟩, XPl, XT, XS, x45, xl⟩ := R
  have r0 := XR.1
  have p0 := XPl.1
  have d0 := XD.1
  have hn : n ≤ 8 := XR.2.2.2.2.2.2.2
  have RC := R0
  have hq := XS.2.1 k hk
  obtain ⟨xs, hx, hl, hg⟩ := XS.2.2.1 k hk
  refine h_s rfl ?_
  refine h1_ge rfl rfl (fun h42 => ?_) (fun h42 => absurd (pos_40 hc) h42)
  refine h_s rfl ?_
  refine h_k (y := 40) rfl rfl ?_
  refine h2_le rfl rfl (fun h56 => absurd h56 (not_le40 hc)) (fun h56 => ?_)
  refine h_s rfl ?_
  refine h_k (y := (-1000001)) rfl rfl ?_
  refine hq_v rfl rfl rfl x0 rfl rfl (x_found RC 0 (by omega) _ (by decide)) (fun v9 w9 q9 => ?_)
  obtain ⟨rfl, q2, q3⟩ := q9
  refine h_n (st2 := [_]) rfl ?_
  exact h_ri rfl rfl ⟨rfl, q2, q3⟩
set_option maxRecDepth 100000 in
set_option maxHeartbeats 4000000 in
theorem x_sh41k (R : XW w s n st ks kp tp tn bo so nu) (k : Nat) (hk : k < 4) (b : Int32) (m : Nat) (hm : m ≤ 40) : ab_H X kX5_sheet 41 [some (.ref 0), some (.int (nI k)), some (.int b), some (.int (nI m)), some (.ref (46 + 2 * k))] [] w (XP w (if b = 0 then 0 else nI m) s n st ks kp tp tn (bo.set k b) (so.set k (if b = 0 then 0 else nI m)) (zeroN nu k 40)) := by
  have R0 := R
  obtain ⟨x0, XR, ⟨sd, nd, XD⟩, ⟨sk, nk, XK, hkp⟩, XPl, XT, XS, x45, xl⟩ := R
  have r0 := XR.1
  have p0 := XPl.1
  have d0 := XD.1
  have hn : n ≤ 8 := XR.2.2.2.2.2.2.2
  have RC := R0
  have hq := XS.2.1 k hk
  obtain ⟨xs, hx, hl, hg⟩ := XS.2.2.1 k hk
  refine h_s rfl ?_
  refine h1_ge rfl rfl (fun h42 => ?_) (fun h42 => absurd (nI_pos' (by omega)) h42)
  refine h_s rfl ?_
  refine h_k (y := 40) rfl rfl ?_
  refine h2_le rfl rfl (fun h56 => ?_) (fun h56 => absurd (nI_le (a := m) (b := 40) hm (by decide)) h56)
  iterate 3 refine h_s rfl ?_
  refine hq_v rfl rfl rfl hq rfl rfl (x_renewS hq hx hl (by omega) b (nI m)) (fun v1 w1 q1 => ?_)
  obtain ⟨rfl, hq1, ⟨ys, hx1, hl1, hg1⟩, f1⟩ := q1
  have hq := hq1
  refine h_n (st2 := []) rfl ?_
  refine h_s rfl ?_
  refine h_gf rfl rfl rfl hq rfl ?_
  obtain ⟨la, lb, lc⟩ := XS.2.2.2
  refine h_ri rfl rfl ⟨rfl, R0.sheet (XS.cell hk hq1 hx1 hl1 f1 (fun j => gD_set _ _ _ _ (by omega)) (fun j => gD_set _ _ _ _ (by omega)) (fun j hj => ?_) (fun h j hh hne hj => ?_) (by rw [List.length_set]; exact la) (by rw [List.length_set]; exact lb) ((zero_l ..).trans lc)) (fun i hi => f1 i (by omega) (by omega)), fun i hi => f1 i (by omega) (by omega)⟩
  · rw [hg1 j hj, zeroN_D nu k hk lc 40 (by omega), if_pos (by omega)]
  · rw [zeroN_D nu k hk lc 40 (by omega), if_neg (by omega)]
set_option maxRecDepth 100000 in
set_option maxHeartbeats 4000000 in
theorem x_sheet_s (R : XW w s n st ks kp tp tn bo so nu) (k : Nat) (b : Int32) (c : Int32) (hk : k < 4) (hb : bitOK b = true) (hc : c < 0) : ab_Q X kX5_sheet [.ref 0, .int (nI k), .int b, .int c] w (XP w (-1000007) s n (bump st 6) ks kp tp tn bo so nu) := by
  have R0 := R
  obtain ⟨x0, XR, ⟨sd, nd, XD⟩, ⟨sk, nk, XK, hkp⟩, XPl, XT, XS, x45, xl⟩ := R
  have r0 := XR.1
  have p0 := XPl.1
  have d0 := XD.1
  have hn : n ≤ 8 := XR.2.2.2.2.2.2.2
  have RC := R0
  show ab_H X kX5_sheet 0 [some (.ref 0), some (.int (nI k)), some (.int b), some (.int c), none] [] w _
  have hq := XS.2.1 k hk
  obtain ⟨xs, hx, hl, hg⟩ := XS.2.2.1 k hk
  iterate 2 refine h_s rfl ?_
  refine h_cv rfl rfl rfl x0 rfl rfl (x_sheetAt x0 XS hk) ?_
  refine h_n (st2 := [_]) rfl ?_
  iterate 4 refine h_s rfl ?_
  refine h1_eq rfl rfl (fun h13 => ?_) (fun h13 => ?_)
  · exact x_sh41s R0 k hk b c hc
  · refine h_s rfl ?_
    refine h_k (y := 8) rfl rfl ?_
    refine h2_eq rfl rfl (fun h19 => ?_) (fun h19 => ?_)
    · exact x_sh41s R0 k hk b c hc
    · refine h_s rfl ?_
      refine h_k (y := 16) rfl rfl ?_
      refine h2_eq rfl rfl (fun h25 => ?_) (fun h25 => ?_)
      · exact x_sh41s R0 k hk b c hc
      · refine h_s rfl ?_
        refine h_k (y := 32) rfl rfl ?_
        refine h2_eq rfl rfl (fun h31 => ?_) (fun h31 => ?_)
        · exact x_sh41s R0 k hk b c hc
        · exact absurd hb (by unfold bitOK; simp [h13, h19, h25, h31])
set_option maxRecDepth 100000 in
set_option maxHeartbeats 4000000 in
theorem x_sheet_m (R : XW w s n st ks kp tp tn bo so nu) (k : Nat) (b : Int32) (c : Int32) (hk : k < 4) (hb : bitOK b = true) (hc : 40 < c) : ab_Q X kX5_sheet [.ref 0, .int (nI k), .int b, .int c] w (XP w (-1000001) s n (bump st 0) ks kp tp tn bo so nu) := by
  have R0 := R
  obtain ⟨x0, XR, ⟨sd, nd, XD⟩, ⟨sk, nk, XK, hkp⟩, XPl, XT, XS, x45, xl⟩ := R
  have r0 := XR.1
  have p0 := XPl.1
  have d0 := XD.1
  have hn : n ≤ 8 := XR.2.2.2.2.2.2.2
  have RC := R0
  show ab_H X kX5_sheet 0 [some (.ref 0), some (.int (nI k)), some (.int b), some (.int c), none] [] w _
  have hq := XS.2.1 k hk
  obtain ⟨xs, hx, hl, hg⟩ := XS.2.2.1 k hk
  iterate 2 refine h_s rfl ?_
  refine h_cv rfl rfl rfl x0 rfl rfl (x_sheetAt x0 XS hk) ?_
  refine h_n (st2 := [_]) rfl ?_
  iterate 4 refine h_s rfl ?_
  refine h1_eq rfl rfl (fun h13 => ?_) (fun h13 => ?_)
  · exact x_sh41m R0 k hk b c hc
  · refine h_s rfl ?_
    refine h_k (y := 8) rfl rfl ?_
    refine h2_eq rfl rfl (fun h19 => ?_) (fun h19 => ?_)
    · exact x_sh41m R0 k hk b c hc
    · refine h_s rfl ?_
      refine h_k (y := 16) rfl rfl ?_
      refine h2_eq rfl rfl (fun h25 => ?_) (fun h25 => ?_)
      · exact x_sh41m R0 k hk b c hc
      · refine h_s rfl ?_
        refine h_k (y := 32) rfl rfl ?_
        refine h2_eq rfl rfl (fun h31 => ?_) (fun h31 => ?_)
        · exact x_sh41m R0 k hk b c hc
        · exact absurd hb (by unfold bitOK; simp [h13, h19, h25, h31])
set_option maxRecDepth 100000 in
set_option maxHeartbeats 4000000 in
theorem x_sheet_k (R : XW w s n st ks kp tp tn bo so nu) (k : Nat) (b : Int32) (m : Nat) (hk : k < 4) (hb : bitOK b = true) (hm : m ≤ 40) : ab_Q X kX5_sheet [.ref 0, .int (nI k), .int b, .int (nI m)] w (XP w (if b = 0 then 0 else nI m) s n st ks kp tp tn (bo.set k b) (so.set k (if b = 0 then 0 else nI m)) (zeroN nu k 40)) := by
  have R0 := R
  obtain ⟨x0, XR, ⟨sd, nd, XD⟩, ⟨sk, nk, XK, hkp⟩, XPl, XT, XS, x45, xl⟩ := R
  have r0 := XR.1
  have p0 := XPl.1
  have d0 := XD.1
  have hn : n ≤ 8 := XR.2.2.2.2.2.2.2
  have RC := R0
  show ab_H X kX5_sheet 0 [some (.ref 0), some (.int (nI k)), some (.int b), some (.int (nI m)), none] [] w _
  have hq := XS.2.1 k hk
  obtain ⟨xs, hx, hl, hg⟩ := XS.2.2.1 k hk
  iterate 2 refine h_s rfl ?_
  refine h_cv rfl rfl rfl x0 rfl rfl (x_sheetAt x0 XS hk) ?_
  refine h_n (st2 := [_]) rfl ?_
  iterate 4 refine h_s rfl ?_
  refine h1_eq rfl rfl (fun h13 => ?_) (fun h13 => ?_)
  · exact x_sh41k R0 k hk b m hm
  · refine h_s rfl ?_
    refine h_k (y := 8) rfl rfl ?_
    refine h2_eq rfl rfl (fun h19 => ?_) (fun h19 => ?_)
    · exact x_sh41k R0 k hk b m hm
    · refine h_s rfl ?_
      refine h_k (y := 16) rfl rfl ?_
      refine h2_eq rfl rfl (fun h25 => ?_) (fun h25 => ?_)
      · exact x_sh41k R0 k hk b m hm
      · refine h_s rfl ?_
        refine h_k (y := 32) rfl rfl ?_
        refine h2_eq rfl rfl (fun h31 => ?_) (fun h31 => ?_)
        · exact x_sh41k R0 k hk b m hm
        · exact absurd hb (by unfold bitOK; simp [h13, h19, h25, h31])
set_option maxRecDepth 100000 in
set_option maxHeartbeats 4000000 in
theorem x_sheet_b (R : XW w s n st ks kp tp tn bo so nu) (a b c : Int32) (hb : (inN a 4 && bitOK b) = false) : ab_Q X kX5_sheet [.ref 0, .int a, .int b, .int c] w (XP w (-1000001) s n (bump st 0) ks kp tp tn bo so nu) := by
  have R0 := R
  obtain ⟨x0, XR, ⟨sd, nd, XD⟩, ⟨sk, nk, XK, hkp⟩, XPl, XT, XS, x45, xl⟩ := R
  have r0 := XR.1
  have p0 := XPl.1
  have d0 := XD.1
  have hn : n ≤ 8 := XR.2.2.2.2.2.2.2
  have RC := R0
  show ab_H X kX5_sheet 0 [some (.ref 0), some (.int a), some (.int b), some (.int c), none] [] w _
  cases ha : inN a 4 with
  | false =>
    iterate 2 refine h_s rfl ?_
    refine h_cv rfl rfl rfl x0 rfl rfl (x_sheetAtO x0 XS a ha) ?_
    refine h_n (st2 := [_]) rfl ?_
    iterate 4 refine h_s rfl ?_
    refine h_k (y := (-1000001)) rfl rfl ?_
    refine hq_v rfl rfl rfl x0 rfl rfl (x_found RC 0 (by omega) _ (by decide)) (fun v9 w9 q9 => ?_)
    obtain ⟨rfl, q2, q3⟩ := q9
    refine h_n (st2 := [_]) rfl ?_
    exact h_ri rfl rfl ⟨rfl, q2, q3⟩
  | true =>
    obtain ⟨k, hk, rfl⟩ := inN_t (by decide) ha
    have hq := XS.2.1 k hk
    obtain ⟨xs, hx, hl, hg⟩ := XS.2.2.1 k hk
    iterate 2 refine h_s rfl ?_
    refine h_cv rfl rfl rfl x0 rfl rfl (x_sheetAt x0 XS hk) ?_
    refine h_n (st2 := [_]) rfl ?_
    iterate 4 refine h_s rfl ?_
    refine h1_eq rfl rfl (fun h13 => ?_) (fun h13 => ?_)
    · exact absurd hb (by unfold bitOK; simp [ha, h13])
    · refine h_s rfl ?_
      refine h_k (y := 8) rfl rfl ?_
      refine h2_eq rfl rfl (fun h19 => ?_) (fun h19 => ?_)
      · exact absurd hb (by unfold bitOK; simp [ha, h13, h19])
      · refine h_s rfl ?_
        refine h_k (y := 16) rfl rfl ?_
        refine h2_eq rfl rfl (fun h25 => ?_) (fun h25 => ?_)
        · exact absurd hb (by unfold bitOK; simp [ha, h13, h19, h25])
        · refine h_s rfl ?_
          refine h_k (y := 32) rfl rfl ?_
          refine h2_eq rfl rfl (fun h31 => ?_) (fun h31 => ?_)
          · exact absurd hb (by unfold bitOK; simp [ha, h13, h19, h25, h31])
          · refine h_s rfl ?_
            refine h_k (y := (-1000001)) rfl rfl ?_
            refine hq_v rfl rfl rfl x0 rfl rfl (x_found RC 0 (by omega) _ (by decide)) (fun v9 w9 q9 => ?_)
            obtain ⟨rfl, q2, q3⟩ := q9
            refine h_n (st2 := [_]) rfl ?_
            exact h_ri rfl rfl ⟨rfl, q2, q3⟩
set_option maxRecDepth 100000 in
set_option maxHeartbeats 4000000 in
theorem x_write_b (R : XW w s n st ks kp tp tn bo so nu) (a : Int32) (i v : Int32) (ha : inN a 4 = false) : ab_Q X kX5_write [.ref 0, .int a, .int i, .int v] w (XP w (-1000001) s n (bump st 0) ks kp tp tn bo so nu) := by
  have R0 := R
  obtain ⟨x0, XR, ⟨sd, nd, XD⟩, ⟨sk, nk, XK, hkp⟩, XPl, XT, XS, x45, xl⟩ := R
  have r0 := XR.1
  have p0 := XPl.1
  have d0 := XD.1
  have hn : n ≤ 8 := XR.2.2.2.2.2.2.2
  have RC := R0
  show ab_H X kX5_write 0 [some (.ref 0), some (.int a), some (.int i), some (.int v), none] [] w _
  iterate 2 refine h_s rfl ?_
  refine h_cv rfl rfl rfl x0 rfl rfl (x_sheetAtO x0 XS a ha) ?_
  refine h_n (st2 := [_]) rfl ?_
  iterate 4 refine h_s rfl ?_
  refine h_k (y := (-1000001)) rfl rfl ?_
  refine hq_v rfl rfl rfl x0 rfl rfl (x_found RC 0 (by omega) _ (by decide)) (fun v9 w9 q9 => ?_)
  obtain ⟨rfl, q2, q3⟩ := q9
  refine h_n (st2 := [_]) rfl ?_
  exact h_ri rfl rfl ⟨rfl, q2, q3⟩
set_option maxRecDepth 100000 in
set_option maxHeartbeats 4000000 in
theorem x_write_m (R : XW w s n st ks kp tp tn bo so nu) (k : Nat) (i v : Int32) (hk : k < 4) (hb : bo.getD k 0 = 0) : ab_Q X kX5_write [.ref 0, .int (nI k), .int i, .int v] w (XP w (-1000006) s n (bump st 5) ks kp tp tn bo so nu) := by
  have R0 := R
  obtain ⟨x0, XR, ⟨sd, nd, XD⟩, ⟨sk, nk, XK, hkp⟩, XPl, XT, XS, x45, xl⟩ := R
  have r0 := XR.1
  have p0 := XPl.1
  have d0 := XD.1
  have hn : n ≤ 8 := XR.2.2.2.2.2.2.2
  have RC := R0
  show ab_H X kX5_write 0 [some (.ref 0), some (.int (nI k)), some (.int i), some (.int v), none] [] w _
  have hq := XS.2.1 k hk
  obtain ⟨xs, hx, hl, hg⟩ := XS.2.2.1 k hk
  iterate 2 refine h_s rfl ?_
  refine h_cv rfl rfl rfl x0 rfl rfl (x_sheetAt x0 XS hk) ?_
  refine h_n (st2 := [_]) rfl ?_
  iterate 4 refine h_s rfl ?_
  refine h_cv rfl rfl rfl hq rfl rfl (x_isMissing hq) ?_
  refine h_n (st2 := [_]) rfl ?_
  refine hd_eq rfl rfl (fun h24 => absurd (hb) h24) (fun h24 => ?_)
  refine h_s rfl ?_
  refine h_k (y := (-1000006)) rfl rfl ?_
  refine hq_v rfl rfl rfl x0 rfl rfl (x_found RC 5 (by omega) _ (by decide)) (fun v9 w9 q9 => ?_)
  obtain ⟨rfl, q2, q3⟩ := q9
  refine h_n (st2 := [_]) rfl ?_
  exact h_ri rfl rfl ⟨rfl, q2, q3⟩
set_option maxRecDepth 100000 in
set_option maxHeartbeats 4000000 in
theorem x_load_b (R : XW w s n st ks kp tp tn bo so nu) (a : Int32)  (ha : inN a 4 = false) : ab_Q X kX5_load [.ref 0, .int a] w (XP w (-1000001) s n (bump st 0) ks kp tp tn bo so nu) := by
  have R0 := R
  obtain ⟨x0, XR, ⟨sd, nd, XD⟩, ⟨sk, nk, XK, hkp⟩, XPl, XT, XS, x45, xl⟩ := R
  have r0 := XR.1
  have p0 := XPl.1
  have d0 := XD.1
  have hn : n ≤ 8 := XR.2.2.2.2.2.2.2
  have RC := R0
  show ab_H X kX5_load 0 [some (.ref 0), some (.int a), none, none, none, none] [] w _
  iterate 2 refine h_s rfl ?_
  refine h_cv rfl rfl rfl x0 rfl rfl (x_sheetAtO x0 XS a ha) ?_
  refine h_n (st2 := [_]) rfl ?_
  iterate 4 refine h_s rfl ?_
  refine h_k (y := (-1000001)) rfl rfl ?_
  refine hq_v rfl rfl rfl x0 rfl rfl (x_found RC 0 (by omega) _ (by decide)) (fun v9 w9 q9 => ?_)
  obtain ⟨rfl, q2, q3⟩ := q9
  refine h_n (st2 := [_]) rfl ?_
  exact h_ri rfl rfl ⟨rfl, q2, q3⟩
set_option maxRecDepth 100000 in
set_option maxHeartbeats 4000000 in
theorem x_load_m (R : XW w s n st ks kp tp tn bo so nu) (k : Nat)  (hk : k < 4) (hb : bo.getD k 0 = 0) : ab_Q X kX5_load [.ref 0, .int (nI k)] w (XP w (-1000006) s n (bump st 5) ks kp tp tn bo so nu) := by
  have R0 := R
  obtain ⟨x0, XR, ⟨sd, nd, XD⟩, ⟨sk, nk, XK, hkp⟩, XPl, XT, XS, x45, xl⟩ := R
  have r0 := XR.1
  have p0 := XPl.1
  have d0 := XD.1
  have hn : n ≤ 8 := XR.2.2.2.2.2.2.2
  have RC := R0
  show ab_H X kX5_load 0 [some (.ref 0), some (.int (nI k)), none, none, none, none] [] w _
  have hq := XS.2.1 k hk
  obtain ⟨xs, hx, hl, hg⟩ := XS.2.2.1 k hk
  iterate 2 refine h_s rfl ?_
  refine h_cv rfl rfl rfl x0 rfl rfl (x_sheetAt x0 XS hk) ?_
  refine h_n (st2 := [_]) rfl ?_
  iterate 4 refine h_s rfl ?_
  refine h_cv rfl rfl rfl hq rfl rfl (x_isMissing hq) ?_
  refine h_n (st2 := [_]) rfl ?_
  refine hd_eq rfl rfl (fun h21 => absurd (hb) h21) (fun h21 => ?_)
  refine h_s rfl ?_
  refine h_k (y := (-1000006)) rfl rfl ?_
  refine hq_v rfl rfl rfl x0 rfl rfl (x_found RC 5 (by omega) _ (by decide)) (fun v9 w9 q9 => ?_)
  obtain ⟨rfl, q2, q3⟩ := q9
  refine h_n (st2 := [_]) rfl ?_
  exact h_ri rfl rfl ⟨rfl, q2, q3⟩
set_option maxRecDepth 100000 in
set_option maxHeartbeats 4000000 in
theorem x_judge_b (R : XW w s n st ks kp tp tn bo so nu) (a : Int32) (f c : Int32) (ha : inN a 4 = false) : ab_Q X kX5_judge [.ref 0, .int a, .int f, .int c] w (XP w (-1000001) s n (bump st 0) ks kp tp tn bo so nu) := by
  have R0 := R
  obtain ⟨x0, XR, ⟨sd, nd, XD⟩, ⟨sk, nk, XK, hkp⟩, XPl, XT, XS, x45, xl⟩ := R
  have r0 := XR.1
  have p0 := XPl.1
  have d0 := XD.1
  have hn : n ≤ 8 := XR.2.2.2.2.2.2.2
  have RC := R0
  show ab_H X kX5_judge 0 [some (.ref 0), some (.int a), some (.int f), some (.int c), none, none, none, none, none, none] [] w _
  iterate 2 refine h_s rfl ?_
  refine h_cv rfl rfl rfl x0 rfl rfl (x_sheetAtO x0 XS a ha) ?_
  refine h_n (st2 := [_]) rfl ?_
  iterate 4 refine h_s rfl ?_
  refine h_k (y := (-1000001)) rfl rfl ?_
  refine hq_v rfl rfl rfl x0 rfl rfl (x_found RC 0 (by omega) _ (by decide)) (fun v9 w9 q9 => ?_)
  obtain ⟨rfl, q2, q3⟩ := q9
  refine h_n (st2 := [_]) rfl ?_
  exact h_ri rfl rfl ⟨rfl, q2, q3⟩
set_option maxRecDepth 100000 in
set_option maxHeartbeats 4000000 in
theorem x_judge_m (R : XW w s n st ks kp tp tn bo so nu) (k : Nat) (f c : Int32) (hk : k < 4) (hb : bo.getD k 0 = 0) : ab_Q X kX5_judge [.ref 0, .int (nI k), .int f, .int c] w (XP w (-1000006) s n (bump st 5) ks kp tp tn bo so nu) := by
  have R0 := R
  obtain ⟨x0, XR, ⟨sd, nd, XD⟩, ⟨sk, nk, XK, hkp⟩, XPl, XT, XS, x45, xl⟩ := R
  have r0 := XR.1
  have p0 := XPl.1
  have d0 := XD.1
  have hn : n ≤ 8 := XR.2.2.2.2.2.2.2
  have RC := R0
  show ab_H X kX5_judge 0 [some (.ref 0), some (.int (nI k)), some (.int f), some (.int c), none, none, none, none, none, none] [] w _
  have hq := XS.2.1 k hk
  obtain ⟨xs, hx, hl, hg⟩ := XS.2.2.1 k hk
  iterate 2 refine h_s rfl ?_
  refine h_cv rfl rfl rfl x0 rfl rfl (x_sheetAt x0 XS hk) ?_
  refine h_n (st2 := [_]) rfl ?_
  iterate 4 refine h_s rfl ?_
  refine h_cv rfl rfl rfl hq rfl rfl (x_isMissing hq) ?_
  refine h_n (st2 := [_]) rfl ?_
  refine hd_eq rfl rfl (fun h24 => absurd (hb) h24) (fun h24 => ?_)
  refine h_s rfl ?_
  refine h_k (y := (-1000006)) rfl rfl ?_
  refine hq_v rfl rfl rfl x0 rfl rfl (x_found RC 5 (by omega) _ (by decide)) (fun v9 w9 q9 => ?_)
  obtain ⟨rfl, q2, q3⟩ := q9
  refine h_n (st2 := [_]) rfl ?_
  exact h_ri rfl rfl ⟨rfl, q2, q3⟩
set_option maxRecDepth 100000 in
set_option maxHeartbeats 4000000 in
theorem x_write_i (R : XW w s n st ks kp tp tn bo so nu) (k z : Nat) (hk : k < 4) (hb : ¬ bo.getD k 0 = 0) (hz : so.getD k 0 = nI z) (hz40 : z ≤ 40) (i v : Int32) (hi : inN i z = false) : ab_Q X kX5_write [.ref 0, .int (nI k), .int i, .int v] w (XP w (-1000001) s n (bump st 0) ks kp tp tn bo so nu) := by
  have R0 := R
  obtain ⟨x0, XR, ⟨sd, nd, XD⟩, ⟨sk, nk, XK, hkp⟩, XPl, XT, XS, x45, xl⟩ := R
  have r0 := XR.1
  have p0 := XPl.1
  have d0 := XD.1
  have hn : n ≤ 8 := XR.2.2.2.2.2.2.2
  have RC := R0
  show ab_H X kX5_write 0 [some (.ref 0), some (.int (nI k)), some (.int i), some (.int v), none] [] w _
  have hq := XS.2.1 k hk
  obtain ⟨xs, hx, hl, hg⟩ := XS.2.2.1 k hk
  rw [hz] at hq
  iterate 2 refine h_s rfl ?_
  refine h_cv rfl rfl rfl x0 rfl rfl (x_sheetAt x0 XS hk) ?_
  refine h_n (st2 := [_]) rfl ?_
  iterate 4 refine h_s rfl ?_
  refine h_cv rfl rfl rfl hq rfl rfl (x_isMissing hq) ?_
  refine h_n (st2 := [_]) rfl ?_
  refine hd_eq rfl rfl (fun h24 => ?_) (fun h24 => absurd h24 (hb))
  iterate 2 refine h_s rfl ?_
  refine h_gf rfl rfl rfl hq rfl ?_
  refine h_c rfl (x_isBelow i z (by omega)) ?_
  refine h_n (st2 := [_]) rfl ?_
  refine hz_ne rfl rfl (fun h43 => absurd (show (true = false) from h43.symm.trans (show _ = false from hi)) (by decide)) (fun h43 => ?_)
  refine h_s rfl ?_
  refine h_k (y := (-1000001)) rfl rfl ?_
  refine hq_v rfl rfl rfl x0 rfl rfl (x_found RC 0 (by omega) _ (by decide)) (fun v9 w9 q9 => ?_)
  obtain ⟨rfl, q2, q3⟩ := q9
  refine h_n (st2 := [_]) rfl ?_
  exact h_ri rfl rfl ⟨rfl, q2, q3⟩
set_option maxRecDepth 100000 in
set_option maxHeartbeats 4000000 in
theorem x_write_k (R : XW w s n st ks kp tp tn bo so nu) (k z : Nat) (hk : k < 4) (hb : ¬ bo.getD k 0 = 0) (hz : so.getD k 0 = nI z) (hz40 : z ≤ 40) (i : Nat) (v : Int32) (hi : i < z) : ab_Q X kX5_write [.ref 0, .int (nI k), .int (nI i), .int v] w (XP w 1 s n st ks kp tp tn bo so (nu.set (40 * k + i) (narI (bo.getD k 0) v))) := by
  have R0 := R
  obtain ⟨x0, XR, ⟨sd, nd, XD⟩, ⟨sk, nk, XK, hkp⟩, XPl, XT, XS, x45, xl⟩ := R
  have r0 := XR.1
  have p0 := XPl.1
  have d0 := XD.1
  have hn : n ≤ 8 := XR.2.2.2.2.2.2.2
  have RC := R0
  show ab_H X kX5_write 0 [some (.ref 0), some (.int (nI k)), some (.int (nI i)), some (.int v), none] [] w _
  have hq := XS.2.1 k hk
  obtain ⟨xs, hx, hl, hg⟩ := XS.2.2.1 k hk
  rw [hz] at hq
  iterate 2 refine h_s rfl ?_
  refine h_cv rfl rfl rfl x0 rfl rfl (x_sheetAt x0 XS hk) ?_
  refine h_n (st2 := [_]) rfl ?_
  iterate 4 refine h_s rfl ?_
  refine h_cv rfl rfl rfl hq rfl rfl (x_isMissing hq) ?_
  refine h_n (st2 := [_]) rfl ?_
  refine hd_eq rfl rfl (fun h24 => ?_) (fun h24 => absurd h24 (hb))
  iterate 2 refine h_s rfl ?_
  refine h_gf rfl rfl rfl hq rfl ?_
  refine h_c rfl (x_isBelow (nI i) z (by omega)) ?_
  refine h_n (st2 := [_]) rfl ?_
  refine hz_ne rfl rfl (fun h43 => ?_) (fun h43 => absurd (show (true = false) from (show _ = true from by rw [inN_n (by omega) hi]).symm.trans h43) (by decide))
  iterate 3 refine h_s rfl ?_
  refine hq_v rfl rfl rfl hq rfl rfl (x_setS hq hx hl (i := i) (by omega) v) (fun v1 w1 q1 => ?_)
  obtain ⟨rfl, hx1, f1⟩ := q1
  refine h_n (st2 := []) rfl ?_
  refine h_k (y := 1) rfl rfl ?_
  obtain ⟨la, lb, lc⟩ := XS.2.2.2
  refine h_ri rfl rfl ⟨rfl, R0.sheet (XS.cell hk ((f1 _ (by omega)).trans hq) hx1 (by rw [List.length_set]; exact hl) (fun i _ h6 => f1 i h6) (fun j => ?_) (fun j => ?_) (fun j hj => ?_) (fun h j hh hne hj => ?_) la lb (by rw [List.length_set]; exact lc)) (fun i hi => f1 i (by omega)), fun i hi => f1 i (by omega)⟩
  · by_cases e : j = k
    · rw [if_pos e, e]
    · rw [if_neg e]
  · by_cases e : j = k
    · rw [if_pos e, e, hz]
    · rw [if_neg e]
  · rw [gD_set _ _ _ _ (by omega), gD_set _ _ _ _ (by omega), hg j hj]
    by_cases e : j = i
    · rw [if_pos e, if_pos (by omega)]
    · rw [if_neg e, if_neg (by omega)]
  · exact gD_ne (by omega)
set_option maxRecDepth 100000 in
set_option maxHeartbeats 4000000 in
theorem x_load_k (R : XW w s n st ks kp tp tn bo so nu) (k z : Nat) (hk : k < 4) (hb : ¬ bo.getD k 0 = 0) (hz : so.getD k 0 = nI z) (hz40 : z ≤ 40) : ab_Q X kX5_load [.ref 0, .int (nI k)] w (XP w (nI (min z n)) (loadS s nu k (min z n)) n st ks kp tp tn bo so nu) := by
  have R0 := R
  obtain ⟨x0, XR, ⟨sd, nd, XD⟩, ⟨sk, nk, XK, hkp⟩, XPl, XT, XS, x45, xl⟩ := R
  have r0 := XR.1
  have p0 := XPl.1
  have d0 := XD.1
  have hn : n ≤ 8 := XR.2.2.2.2.2.2.2
  have RC := R0
  show ab_H X kX5_load 0 [some (.ref 0), some (.int (nI k)), none, none, none, none] [] w _
  have hq := XS.2.1 k hk
  obtain ⟨xs, hx, hl, hg⟩ := XS.2.2.1 k hk
  rw [hz] at hq
  iterate 2 refine h_s rfl ?_
  refine h_cv rfl rfl rfl x0 rfl rfl (x_sheetAt x0 XS hk) ?_
  refine h_n (st2 := [_]) rfl ?_
  iterate 4 refine h_s rfl ?_
  refine h_cv rfl rfl rfl hq rfl rfl (x_isMissing hq) ?_
  refine h_n (st2 := [_]) rfl ?_
  refine hd_eq rfl rfl (fun h21 => ?_) (fun h21 => absurd h21 (hb))
  refine h_s rfl ?_
  refine h_gf rfl rfl rfl hq rfl ?_
  refine h_s rfl ?_
  refine h_gf rfl rfl rfl x0 rfl ?_
  refine h_gf rfl rfl rfl r0 rfl ?_
  refine h_s rfl ?_
  refine h_t (min_n (z := z) (n := n) (by omega) (by omega)) ?_
  refine h_s rfl ?_
  refine h_k (y := 0) rfl rfl ?_
  refine h_s rfl ?_
  have hl0 := XR.2.2.2.2.2.1
  refine h_loop0 (min z n) (fun i ls v => (∃ x, ls = [some (.ref 0), some (.int (nI k)), some (.ref (46 + 2 * k)), some (.int (nI (min z n))), some (.int (nI i)), x]) ∧ RowW v 1 (loadS s nu k i) n ∧ ∀ j, (j < 1 ∨ 12 ≤ j) → v[j]? = w[j]?) ⟨⟨none, rfl⟩, XR, fun _ _ => rfl⟩ (fun i ls v hi hJ ih => ?_) (fun ls v hJ => ?_)
  · obtain ⟨⟨x, rfl⟩, XR, F⟩ := hJ
    have x0 := (F 0 (by decide)).trans x0
    have r0 := XR.1
    have hq := (F _ (by omega)).trans hq
    have hx := (F _ (by omega)).trans hx
    have hin : i < n := Nat.lt_of_lt_of_le hi (Nat.min_le_right ..)
    have hiz : i < z := Nat.lt_of_lt_of_le hi (Nat.min_le_left ..)
    obtain ⟨mm, hmm⟩ : ∃ mm, min z n = mm := ⟨_, rfl⟩
    have hm8 : mm ≤ 8 := by omega
    rw [hmm] at hi ih ⊢
    iterate 2 refine h_s rfl ?_
    refine hN_ge rfl rfl rfl rfl (by omega) (by omega) (fun h52 => absurd h52 (by omega)) (fun h52 => ?_)
    refine h_s rfl ?_
    refine h_gf rfl rfl rfl x0 rfl ?_
    refine h_s rfl ?_
    refine h_cv rfl rfl rfl r0 rfl rfl (x_at XR hin) ?_
    refine h_n (st2 := [_]) rfl ?_
    iterate 5 refine h_s rfl ?_
    refine h_gf rfl rfl rfl hq rfl ?_
    refine h_s rfl ?_
    refine h_c rfl (x_cell hx (by omega) (j := i) (by omega)) ?_
    refine h_t (hg i (by omega)) ?_
    refine h_n (st2 := [_, _]) rfl ?_
    refine h_k (y := 255) rfl rfl ?_
    refine h_s rfl ?_
    refine h_pf rfl rfl (XR.2.2.2.1 i hin) rfl (fun w2 e2 f2 => ?_)
    refine h_ii rfl rfl rfl ?_
    refine h_s rfl ?_
    exact ih _ _ ⟨⟨_, rfl⟩, XR.setf (j := 2) hin (by decide) e2 f2, fun j hj => (f2 j (by omega)).trans (F j hj)⟩
  · obtain ⟨⟨x, rfl⟩, XR, F⟩ := hJ
    obtain ⟨mm, hmm⟩ : ∃ mm, min z n = mm := ⟨_, rfl⟩
    have hm8 : mm ≤ 8 := by omega
    rw [hmm] at XR ⊢
    iterate 2 refine h_s rfl ?_
    refine hN_ge rfl rfl rfl rfl (by omega) (by omega) (fun h52 => ?_) (fun h52 => absurd (by omega) h52)
    refine h_s rfl ?_
    exact h_ri rfl rfl ⟨rfl, R0.row XR F, fun i hi => F i (by omega)⟩
set_option maxRecDepth 100000 in
set_option maxHeartbeats 4000000 in
theorem x_judge_a (R : XW w s n st ks kp tp tn bo so nu) (k z : Nat) (hk : k < 4) (hb : ¬ bo.getD k 0 = 0) (hz : so.getD k 0 = nI z) (hz40 : z ≤ 40) (a b : Int32) (ha : (inN a n && inN b 24) = false) : ab_Q X kX5_judge [.ref 0, .int (nI k), .int a, .int b] w (XP w (-1000001) s n (bump st 0) ks kp tp tn bo so nu) := by
  have R0 := R
  obtain ⟨x0, XR, ⟨sd, nd, XD⟩, ⟨sk, nk, XK, hkp⟩, XPl, XT, XS, x45, xl⟩ := R
  have r0 := XR.1
  have p0 := XPl.1
  have d0 := XD.1
  have hn : n ≤ 8 := XR.2.2.2.2.2.2.2
  have RC := R0
  show ab_H X kX5_judge 0 [some (.ref 0), some (.int (nI k)), some (.int a), some (.int b), none, none, none, none, none, none] [] w _
  have hq := XS.2.1 k hk
  obtain ⟨xs, hx, hl, hg⟩ := XS.2.2.1 k hk
  rw [hz] at hq
  iterate 2 refine h_s rfl ?_
  refine h_cv rfl rfl rfl x0 rfl rfl (x_sheetAt x0 XS hk) ?_
  refine h_n (st2 := [_]) rfl ?_
  iterate 4 refine h_s rfl ?_
  refine h_cv rfl rfl rfl hq rfl rfl (x_isMissing hq) ?_
  refine h_n (st2 := [_]) rfl ?_
  refine hd_eq rfl rfl (fun h24 => ?_) (fun h24 => absurd h24 (hb))
  iterate 3 refine h_s rfl ?_
  refine h_cv rfl rfl rfl x0 rfl rfl (x_isVisit x0 XR a b) ?_
  refine h_n (st2 := [_]) rfl ?_
  refine hz_ne rfl rfl (fun h40 => absurd (show (true = false) from h40.symm.trans (show _ = false from ha)) (by decide)) (fun h40 => ?_)
  refine h_s rfl ?_
  refine h_k (y := (-1000001)) rfl rfl ?_
  refine hq_v rfl rfl rfl x0 rfl rfl (x_found RC 0 (by omega) _ (by decide)) (fun v9 w9 q9 => ?_)
  obtain ⟨rfl, q2, q3⟩ := q9
  refine h_n (st2 := [_]) rfl ?_
  exact h_ri rfl rfl ⟨rfl, q2, q3⟩
set_option maxRecDepth 100000 in
set_option maxHeartbeats 4000000 in
theorem x_jointsOf {adj : Nat → Nat → Bool} (PJ : PlanJ w adj) {m : Nat} (hm : m < 16) : ab_M X kX1_jointsOf [.ref 34, .int (nI m)] w (some (.int (bs (adj m) 16))) w := by
  obtain ⟨p0, ⟨jo, p1, jl, hjo⟩, -⟩ := PJ
  show ab_G X kX1_jointsOf 0 [some (.ref 34), some (.int (nI m))] [] w _ _
  refine ab_s rfl ?_
  refine ab_gf rfl rfl rfl p0 rfl ?_
  refine ab_s rfl ?_
  refine ab_c rfl (x_cell p1 (by omega) (j := m) (by omega)) ?_
  refine ab_t (hjo m hm) ?_
  refine ab_n (st2 := [_]) rfl ?_
  exact ab_ri rfl rfl
set_option maxRecDepth 100000 in
set_option maxHeartbeats 4000000 in
theorem x_judge_k (R : XW w s n st ks kp tp tn bo so nu) (k z : Nat) (hk : k < 4) (hb : ¬ bo.getD k 0 = 0) (hz : so.getD k 0 = nI z) (hz40 : z ≤ 40) (I : SI s n) (f c : Nat) (hf : f < n) (hc : c < 24) (G_ : Nat) (hR : leadN (stepB s n f (nI c) (fun i => nu.getD (40 * k + i) 0)) z = G_) : ab_Q X kX5_judge [.ref 0, .int (nI k), .int (nI f), .int (nI c)] w (XP w (judI s f z G_ (fun i => nu.getD (40 * k + i) 0)) s n st ks kp tp tn bo so nu) := by
  have R0 := R
  obtain ⟨x0, XR, ⟨sd, nd, XD⟩, ⟨sk, nk, XK, hkp⟩, XPl, XT, XS, x45, xl⟩ := R
  have r0 := XR.1
  have p0 := XPl.1
  have d0 := XD.1
  have hn : n ≤ 8 := XR.2.2.2.2.2.2.2
  have RC := R0
  show ab_H X kX5_judge 0 [some (.ref 0), some (.int (nI k)), some (.int (nI f)), some (.int (nI c)), none, none, none, none, none, none] [] w _
  have hq := XS.2.1 k hk
  obtain ⟨xs, hx, hl, hg⟩ := XS.2.2.1 k hk
  rw [hz] at hq
  iterate 2 refine h_s rfl ?_
  refine h_cv rfl rfl rfl x0 rfl rfl (x_sheetAt x0 XS hk) ?_
  refine h_n (st2 := [_]) rfl ?_
  iterate 4 refine h_s rfl ?_
  refine h_cv rfl rfl rfl hq rfl rfl (x_isMissing hq) ?_
  refine h_n (st2 := [_]) rfl ?_
  refine hd_eq rfl rfl (fun h24 => ?_) (fun h24 => absurd h24 (hb))
  iterate 3 refine h_s rfl ?_
  refine h_cv rfl rfl rfl x0 rfl rfl (x_isVisit x0 XR (nI f) (nI c)) ?_
  refine h_t (y := 1) (by rw [inN_n (by omega) (by omega), inN_n (by omega) (by omega)]; rfl) ?_
  refine h_n (st2 := [_]) rfl ?_
  iterate 2 refine h_s rfl ?_
  refine h_gf rfl rfl rfl x0 rfl ?_
  refine h_s rfl ?_
  refine h_gf rfl rfl rfl x0 rfl ?_
  refine hq_v rfl rfl rfl p0 rfl rfl (x_draw XPl XR I (by omega)) (fun v1 w1 q1 => ?_)
  obtain ⟨rfl, PJ, f1⟩ := q1
  have G : ∀ i, (i < 34 ∨ 39 ≤ i) → w1[i]? = w[i]? := fun i hi => f1 i (by omega)
  have x0 := (G 0 (by decide)).trans x0
  have XR := XR.fr (w1 := w1) (fun i _ _ => G i (by omega))
  have r0 := XR.1
  have p0 := PJ.1
  refine h_n (st2 := []) rfl ?_
  refine h_s rfl ?_
  refine h_gf rfl rfl rfl x0 rfl ?_
  iterate 2 refine h_s rfl ?_
  refine h_k (y := 0) rfl rfl ?_
  refine h_k (y := 0) rfl rfl ?_
  refine h_cv rfl rfl rfl r0 rfl rfl (x_lett XR I (show f < 8 by omega) (nI c)) ?_
  refine h_n (st2 := [_]) rfl ?_
  refine h_c rfl (x_roomsOf (lqB s n f (nI c))) ?_
  refine h_n (st2 := [_]) rfl ?_
  refine h_s rfl ?_
  refine h_k (y := 21845) rfl rfl ?_
  refine h_s rfl ?_
  refine h_s rfl ?_
  refine h_t (y := bs (mayB s n f (nI c) (fun i => nu.getD (40 * k + i) 0) 0) 16) (by rw [ev_21845, lq_op, bs_and (by omega)]; exact bs_cong (fun i _ => by show (evB i && opB s n f (nI c) i) = (gB n i && opB s n f (nI c) i); cases h : opB s n f (nI c) i with | true => rw [ev_gB hn (by unfold opB at h; simp at h; exact h.1)] | false => rw [Bool.and_false, Bool.and_false])) ?_
  refine h_s rfl ?_
  refine h_k (y := (-1)) rfl rfl ?_
  refine h_s rfl ?_
  refine h_k (y := 0) rfl rfl ?_
  refine h_s rfl ?_
  have hq := (G _ (by omega)).trans hq
  have hx := (G _ (by omega)).trans hx
  refine h_loop0 (z + 1) (fun i ls v => i ≤ z ∧ (∃ x, ls = [some (.ref 0), some (.int (nI k)), some (.int (nI f)), some (.int (nI c)), some (.ref (46 + 2 * k)), some (.int (bs (opB s n f (nI c)) 16)), some (.int (bs (mayB s n f (nI c) (fun i => nu.getD (40 * k + i) 0) i) 16)), some (.int (lastR (fun i => nu.getD (40 * k + i) 0) i)), some (.int (nI i)), x]) ∧ leadN (stepB s n f (nI c) (fun i => nu.getD (40 * k + i) 0)) i = i ∧ (∀ j, (j < 34 ∨ 39 ≤ j) → v[j]? = w[j]?) ∧ PlanJ v (adjB s n)) ⟨by omega, ⟨none, rfl⟩, rfl, G, PJ⟩ (fun i ls v hi hJ ih => ?_) (fun ls v hJ => absurd hJ.1 (by omega))
  obtain ⟨hiz, ⟨y, rfl⟩, hle, G, PJ⟩ := hJ
  have x0 := (G 0 (by decide)).trans R0.1
  have XR := R0.2.1.fr (w1 := v) (fun j _ _ => G j (by omega))
  have hq := (G _ (by omega)).trans (XS.2.1 k hk)
  rw [hz] at hq
  obtain ⟨xs, hx, hl, hg⟩ := XS.2.2.1 k hk
  have hx := (G _ (by omega)).trans hx
  have p0 := PJ.1
  have r0 := XR.1
  by_cases hzi : i = z
  · have hRi : G_ = i := by rw [← hR, ← hzi]; exact hle
    have hh := homeN_lt I hn hf
    iterate 2 refine h_s rfl ?_
    refine h_gf rfl rfl rfl hq rfl ?_
    refine hN_ge rfl rfl rfl rfl (by omega) (by omega) (fun h98 => ?_) (fun h98 => absurd (by omega) h98)
    iterate 2 refine h_s rfl ?_
    refine h_gf rfl rfl rfl x0 rfl ?_
    refine h_s rfl ?_
    refine h_cv rfl rfl rfl r0 rfl rfl (x_homeOf XR I hf) ?_
    refine h_n (st2 := [_, _]) rfl ?_
    refine h2_ne rfl rfl (fun h172 => ?_) (fun h172 => ?_)
    · refine h_k (y := 1) rfl rfl ?_
      refine h_s rfl ?_
      refine h_gf rfl rfl rfl hq rfl ?_
      refine h_s rfl ?_
      refine h_t (nI_add 1 z) ?_
      exact h_ri rfl (by unfold judI; rw [if_neg (fun q => h172 (by rw [← hRi]; exact q.2)), hRi, hzi]) ⟨rfl, R0.plan PJ.x G, fun i hi => G i (by omega)⟩
    · refine h_k (y := 0) rfl rfl ?_
      refine h_s rfl ?_
      exact h_ri rfl (by unfold judI; rw [if_pos ⟨by omega, by rw [hRi]; exact h172⟩]) ⟨rfl, R0.plan PJ.x G, fun i hi => G i (by omega)⟩
  · obtain ⟨x, hx2⟩ : ∃ x, (fun i => nu.getD (40 * k + i) 0) i = x := ⟨_, rfl⟩
    iterate 2 refine h_s rfl ?_
    refine h_gf rfl rfl rfl hq rfl ?_
    refine hN_ge rfl rfl rfl rfl (by omega) (by omega) (fun h98 => absurd h98 (by omega)) (fun h98 => ?_)
    refine h_s rfl ?_
    refine h_gf rfl rfl rfl hq rfl ?_
    refine h_s rfl ?_
    refine h_c rfl (x_cell hx (by omega) (j := i) (by omega)) ?_
    refine h_t ((hg i (by omega)).trans hx2) ?_
    refine h_n (st2 := [_]) rfl ?_
    iterate 2 refine h_s rfl ?_
    refine h_k (y := 16) rfl rfl ?_
    refine h_c rfl (x_isBelow x 16 (by decide)) ?_
    refine h_n (st2 := [_]) rfl ?_
    refine hz_eq rfl rfl (fun h120 => ?_) (fun h120 => ?_)
    · refine h_k (y := 1) rfl rfl ?_
      refine h_s rfl ?_
      refine h_s rfl ?_
      refine h_t (nI_add 1 i) ?_
      have hst : stepB s n f (nI c) (fun i => nu.getD (40 * k + i) 0) i = false := by
        unfold stepB
        rw [hx2]
        rw [show inN x (2 * n) = false from Bool.eq_false_iff.mpr (fun q => by obtain ⟨m, hm, rfl⟩ := inN_t (by omega) q; rw [inN_n (by omega) (by omega)] at h120; cases h120), Bool.false_and]
      have hRi : G_ = i := by
        rw [← hR, show z = i + (z - i) by omega]
        exact leadN_stop hle hst _
      exact h_ri rfl (by unfold judI; rw [if_neg (fun q => hzi (by omega)), hRi]) ⟨rfl, R0.plan PJ.x G, fun i hi => G i (by omega)⟩
    · iterate 2 refine h_s rfl ?_
      obtain ⟨m, hm, rfl⟩ := inN_t (by omega) h120
      refine h_c rfl (x_isInB (mayB s n f (nI c) (fun i => nu.getD (40 * k + i) 0) i) (by omega) hm) ?_
      refine h_n (st2 := [_]) rfl ?_
      refine hz_ne rfl rfl (fun h130 => ?_) (fun h130 => ?_)
      · refine h_s rfl ?_
        refine h_gf rfl rfl rfl x0 rfl ?_
        refine h_s rfl ?_
        refine h_cv rfl rfl rfl p0 rfl rfl (x_jointsOf PJ hm) ?_
        refine h_n (st2 := [_]) rfl ?_
        refine h_s rfl ?_
        refine h_s rfl ?_
        refine h_t (bs_and (by omega)) ?_
        iterate 3 refine h_s rfl ?_
        refine h_ii rfl rfl rfl ?_
        refine h_s rfl ?_
        have hm2 := mayB_lt h130
        have hst : stepB s n f (nI c) (fun i => nu.getD (40 * k + i) 0) i = true := by
          unfold stepB
          rw [hx2, inN_nI (by omega), decide_eq_true hm2, nI_clamp (by omega), h130]
          rfl
        refine ih _ _ ⟨by omega, ⟨some (.int (nI m)), ?_⟩, ?_, G, PJ⟩
        · rw [show lastR (fun i => nu.getD (40 * k + i) 0) (i + 1) = nI m from hx2]
          have hmm : mayB s n f (nI c) (fun i => nu.getD (40 * k + i) 0) (i + 1) = fun r' => adjB s n m r' && opB s n f (nI c) r' := by
            funext r'
            show (adjB s n ((fun i => nu.getD (40 * k + i) 0) i).toNatClampNeg r' && opB s n f (nI c) r') = _
            rw [hx2, nI_clamp (by omega)]
          rw [hmm]
          rfl
        · rw [leadN, hle, if_pos ⟨rfl, hst⟩]
      · refine h_k (y := 1) rfl rfl ?_
        refine h_s rfl ?_
        refine h_s rfl ?_
        refine h_t (nI_add 1 i) ?_
        have hst : stepB s n f (nI c) (fun i => nu.getD (40 * k + i) 0) i = false := by
          unfold stepB
          rw [hx2]
          rw [nI_clamp (by omega), h130, Bool.and_false]
        have hRi : G_ = i := by
          rw [← hR, show z = i + (z - i) by omega]
          exact leadN_stop hle hst _
        exact h_ri rfl (by unfold judI; rw [if_neg (fun q => hzi (by omega)), hRi]) ⟨rfl, R0.plan PJ.x G, fun i hi => G i (by omega)⟩
end XT
