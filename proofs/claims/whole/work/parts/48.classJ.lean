/-! THE CLASS: refused calls -/
theorem inN_rng {x : Int32} {m : Nat} (hm : m < 2 ^ 30) (h0 : ¬ x < 0) (h : ¬ nI m < x) : inN x (m + 1) = true := by
  rw [lt_iff, nI_toInt (by omega)] at h
  rw [lt_iff] at h0
  have h1 : ¬ x.toInt < 0 := h0
  exact decide_eq_true (by omega)
theorem inN_s (x : Int32) {m : Nat} (hm : m < 2 ^ 30) (h : x ≠ nI m) : inN x (m + 1) = inN x m := by
  unfold inN
  refine decide_eq_decide.mpr ⟨fun q => ⟨q.1, ?_⟩, fun q => ⟨q.1, by omega⟩⟩
  have : ¬ x.toInt = (nI m).toInt := fun e => h (Int32.toInt_inj.mp e)
  rw [nI_toInt (by omega)] at this
  omega
section XK
variable {X : List Int32} {w w1 : ab_W} {r : Nat} {s : List Int32} {n : Nat} {st ks : List Int32} {kp : Bool} {tp : List Int32} {tn : Nat} {bo so nu : List Int32}
set_option maxRecDepth 100000 in
set_option maxHeartbeats 4000000 in
theorem x_of_b (R : XW w s n st ks kp tp tn bo so nu) (a b : Int32) (hb : (inN a n && inN b 8) = false)  : ab_Q X kX5_of [.ref 0, .int a, .int b] w (XP w (-1000001) s n (bump st 0) ks kp tp tn bo so nu) := by
  have R0 := R
  obtain ⟨x0, XR, ⟨sd, nd, XD⟩, ⟨sk, nk, XK, hkp⟩, XPl, XT, XS, x45, xl⟩ := R
  have r0 := XR.1
  have p0 := XPl.1
  have d0 := XD.1
  have hn : n ≤ 8 := XR.2.2.2.2.2.2.2
  have RC := R0
  show ab_H X kX5_of 0 [some (.ref 0), some (.int a), some (.int b), none] [] w _
  cases ha : inN a n with
  | false =>
    refine h_s rfl ?_
    refine h_gf rfl rfl rfl x0 rfl ?_
    refine h_s rfl ?_
    refine h_cv rfl rfl rfl r0 rfl rfl (x_atO XR a ha) ?_
    refine h_n (st2 := [_]) rfl ?_
    iterate 4 refine h_s rfl ?_
    refine h_k (y := (-1000001)) rfl rfl ?_
    refine hq_v rfl rfl rfl x0 rfl rfl (x_found RC 0 (by omega) _ (by decide)) (fun v9 w9 q9 => ?_)
    obtain ⟨rfl, q2, q3⟩ := q9
    refine h_n (st2 := [_]) rfl ?_
    exact h_ri rfl rfl ⟨rfl, q2, q3⟩
  | true =>
    obtain ⟨j, hj, rfl⟩ := inN_t (by omega) ha
    refine h_s rfl ?_
    refine h_gf rfl rfl rfl x0 rfl ?_
    refine h_s rfl ?_
    refine h_cv rfl rfl rfl r0 rfl rfl (x_at XR hj) ?_
    refine h_n (st2 := [_]) rfl ?_
    iterate 4 refine h_s rfl ?_
    refine h1_lt rfl rfl (fun h14 => ?_) (fun h14 => ?_)
    · refine h_s rfl ?_
      refine h_k (y := (-1000001)) rfl rfl ?_
      refine hq_v rfl rfl rfl x0 rfl rfl (x_found RC 0 (by omega) _ (by decide)) (fun v9 w9 q9 => ?_)
      obtain ⟨rfl, q2, q3⟩ := q9
      refine h_n (st2 := [_]) rfl ?_
      exact h_ri rfl rfl ⟨rfl, q2, q3⟩
    · refine h_s rfl ?_
      refine h_k (y := 7) rfl rfl ?_
      refine h2_le rfl rfl (fun h20 => ?_) (fun h20 => ?_)
      · have hv : inN b 8 = true := inN_rng (m := 7) (by decide) h14 (Int32.not_lt.mpr h20)
        exact absurd hb (by simp [ha, h14, h20, hv])
      · refine h_s rfl ?_
        refine h_k (y := (-1000001)) rfl rfl ?_
        refine hq_v rfl rfl rfl x0 rfl rfl (x_found RC 0 (by omega) _ (by decide)) (fun v9 w9 q9 => ?_)
        obtain ⟨rfl, q2, q3⟩ := q9
        refine h_n (st2 := [_]) rfl ?_
        exact h_ri rfl rfl ⟨rfl, q2, q3⟩
set_option maxRecDepth 100000 in
set_option maxHeartbeats 4000000 in
theorem x_lets_b (R : XW w s n st ks kp tp tn bo so nu) (a b c : Int32) (hb : (inN a n && (inN b n && inN c 24)) = false)  : ab_Q X kX5_lets [.ref 0, .int a, .int b, .int c] w (XP w (-1000001) s n (bump st 0) ks kp tp tn bo so nu) := by
  have R0 := R
  obtain ⟨x0, XR, ⟨sd, nd, XD⟩, ⟨sk, nk, XK, hkp⟩, XPl, XT, XS, x45, xl⟩ := R
  have r0 := XR.1
  have p0 := XPl.1
  have d0 := XD.1
  have hn : n ≤ 8 := XR.2.2.2.2.2.2.2
  have RC := R0
  show ab_H X kX5_lets 0 [some (.ref 0), some (.int a), some (.int b), some (.int c), none] [] w _
  cases ha : inN a n with
  | false =>
    refine h_s rfl ?_
    refine h_gf rfl rfl rfl x0 rfl ?_
    refine h_s rfl ?_
    refine h_cv rfl rfl rfl r0 rfl rfl (x_atO XR a ha) ?_
    refine h_n (st2 := [_]) rfl ?_
    iterate 4 refine h_s rfl ?_
    refine h_k (y := (-1000001)) rfl rfl ?_
    refine hq_v rfl rfl rfl x0 rfl rfl (x_found RC 0 (by omega) _ (by decide)) (fun v9 w9 q9 => ?_)
    obtain ⟨rfl, q2, q3⟩ := q9
    refine h_n (st2 := [_]) rfl ?_
    exact h_ri rfl rfl ⟨rfl, q2, q3⟩
  | true =>
    obtain ⟨j, hj, rfl⟩ := inN_t (by omega) ha
    refine h_s rfl ?_
    refine h_gf rfl rfl rfl x0 rfl ?_
    refine h_s rfl ?_
    refine h_cv rfl rfl rfl r0 rfl rfl (x_at XR hj) ?_
    refine h_n (st2 := [_]) rfl ?_
    iterate 6 refine h_s rfl ?_
    refine h_cv rfl rfl rfl x0 rfl rfl (x_isVisit x0 XR _ _) ?_
    refine h_n (st2 := [_]) rfl ?_
    refine hz_ne rfl rfl (fun h21 => ?_) (fun h21 => ?_)
    · exact absurd hb (by simp [ha, h21])
    · refine h_s rfl ?_
      refine h_k (y := (-1000001)) rfl rfl ?_
      refine hq_v rfl rfl rfl x0 rfl rfl (x_found RC 0 (by omega) _ (by decide)) (fun v9 w9 q9 => ?_)
      obtain ⟨rfl, q2, q3⟩ := q9
      refine h_n (st2 := [_]) rfl ?_
      exact h_ri rfl rfl ⟨rfl, q2, q3⟩
set_option maxRecDepth 100000 in
set_option maxHeartbeats 4000000 in
theorem x_letting_b (R : XW w s n st ks kp tp tn bo so nu) (a b : Int32) (hb : (inN a n && inN b 24) = false)  : ab_Q X kX5_letting [.ref 0, .int a, .int b] w (XP w (-1000001) s n (bump st 0) ks kp tp tn bo so nu) := by
  have R0 := R
  obtain ⟨x0, XR, ⟨sd, nd, XD⟩, ⟨sk, nk, XK, hkp⟩, XPl, XT, XS, x45, xl⟩ := R
  have r0 := XR.1
  have p0 := XPl.1
  have d0 := XD.1
  have hn : n ≤ 8 := XR.2.2.2.2.2.2.2
  have RC := R0
  show ab_H X kX5_letting 0 [some (.ref 0), some (.int a), some (.int b)] [] w _
  iterate 3 refine h_s rfl ?_
  refine h_cv rfl rfl rfl x0 rfl rfl (x_isVisit x0 XR _ _) ?_
  refine h_n (st2 := [_]) rfl ?_
  refine hz_ne rfl rfl (fun h6 => ?_) (fun h6 => ?_)
  · exact absurd hb (by simp [h6])
  · refine h_s rfl ?_
    refine h_k (y := (-1000001)) rfl rfl ?_
    refine hq_v rfl rfl rfl x0 rfl rfl (x_found RC 0 (by omega) _ (by decide)) (fun v9 w9 q9 => ?_)
    obtain ⟨rfl, q2, q3⟩ := q9
    refine h_n (st2 := [_]) rfl ?_
    exact h_ri rfl rfl ⟨rfl, q2, q3⟩
set_option maxRecDepth 100000 in
set_option maxHeartbeats 4000000 in
theorem x_joined_b (R : XW w s n st ks kp tp tn bo so nu) (a : Int32) (hb : (inN a (2 * n)) = false)  : ab_Q X kX5_joined [.ref 0, .int a] w (XP w (-1000001) s n (bump st 0) ks kp tp tn bo so nu) := by
  have R0 := R
  obtain ⟨x0, XR, ⟨sd, nd, XD⟩, ⟨sk, nk, XK, hkp⟩, XPl, XT, XS, x45, xl⟩ := R
  have r0 := XR.1
  have p0 := XPl.1
  have d0 := XD.1
  have hn : n ≤ 8 := XR.2.2.2.2.2.2.2
  have RC := R0
  show ab_H X kX5_joined 0 [some (.ref 0), some (.int a)] [] w _
  refine h_s rfl ?_
  refine h_gf rfl rfl rfl x0 rfl ?_
  refine h_s rfl ?_
  refine h_cv rfl rfl rfl r0 rfl rfl (x_hasRoom XR _) ?_
  refine h_n (st2 := [_]) rfl ?_
  refine hz_ne rfl rfl (fun h8 => ?_) (fun h8 => ?_)
  · exact absurd hb (by simp [h8])
  · refine h_s rfl ?_
    refine h_k (y := (-1000001)) rfl rfl ?_
    refine hq_v rfl rfl rfl x0 rfl rfl (x_found RC 0 (by omega) _ (by decide)) (fun v9 w9 q9 => ?_)
    obtain ⟨rfl, q2, q3⟩ := q9
    refine h_n (st2 := [_]) rfl ?_
    exact h_ri rfl rfl ⟨rfl, q2, q3⟩
set_option maxRecDepth 100000 in
set_option maxHeartbeats 4000000 in
theorem x_way_b (R : XW w s n st ks kp tp tn bo so nu) (a b c : Int32) (hb : ((inN a n && inN c 24) && inN b (2 * n)) = false)  : ab_Q X kX5_way [.ref 0, .int a, .int b, .int c] w (XP w (-1000001) s n (bump st 0) ks kp tp tn bo so nu) := by
  have R0 := R
  obtain ⟨x0, XR, ⟨sd, nd, XD⟩, ⟨sk, nk, XK, hkp⟩, XPl, XT, XS, x45, xl⟩ := R
  have r0 := XR.1
  have p0 := XPl.1
  have d0 := XD.1
  have hn : n ≤ 8 := XR.2.2.2.2.2.2.2
  have RC := R0
  show ab_H X kX5_way 0 [some (.ref 0), some (.int a), some (.int b), some (.int c), none] [] w _
  iterate 3 refine h_s rfl ?_
  refine h_cv rfl rfl rfl x0 rfl rfl (x_isVisit x0 XR _ _) ?_
  refine h_n (st2 := [_]) rfl ?_
  refine hz_eq rfl rfl (fun h6 => ?_) (fun h6 => ?_)
  · refine h_s rfl ?_
    refine h_k (y := (-1000001)) rfl rfl ?_
    refine hq_v rfl rfl rfl x0 rfl rfl (x_found RC 0 (by omega) _ (by decide)) (fun v9 w9 q9 => ?_)
    obtain ⟨rfl, q2, q3⟩ := q9
    refine h_n (st2 := [_]) rfl ?_
    exact h_ri rfl rfl ⟨rfl, q2, q3⟩
  · refine h_s rfl ?_
    refine h_gf rfl rfl rfl x0 rfl ?_
    refine h_s rfl ?_
    refine h_cv rfl rfl rfl r0 rfl rfl (x_hasRoom XR _) ?_
    refine h_n (st2 := [_]) rfl ?_
    refine hz_ne rfl rfl (fun h17 => ?_) (fun h17 => ?_)
    · exact absurd hb (by simp [h6, h17])
    · refine h_s rfl ?_
      refine h_k (y := (-1000001)) rfl rfl ?_
      refine hq_v rfl rfl rfl x0 rfl rfl (x_found RC 0 (by omega) _ (by decide)) (fun v9 w9 q9 => ?_)
      obtain ⟨rfl, q2, q3⟩ := q9
      refine h_n (st2 := [_]) rfl ?_
      exact h_ri rfl rfl ⟨rfl, q2, q3⟩
set_option maxRecDepth 100000 in
set_option maxHeartbeats 4000000 in
theorem x_noise_b (R : XW w s n st ks kp tp tn bo so nu) (a b c : Int32) (hb : ((inN a n && inN c 24) && inN b (2 * n)) = false)  : ab_Q X kX5_noise [.ref 0, .int a, .int b, .int c] w (XP w (-1000001) s n (bump st 0) ks kp tp tn bo so nu) := by
  have R0 := R
  obtain ⟨x0, XR, ⟨sd, nd, XD⟩, ⟨sk, nk, XK, hkp⟩, XPl, XT, XS, x45, xl⟩ := R
  have r0 := XR.1
  have p0 := XPl.1
  have d0 := XD.1
  have hn : n ≤ 8 := XR.2.2.2.2.2.2.2
  have RC := R0
  show ab_H X kX5_noise 0 [some (.ref 0), some (.int a), some (.int b), some (.int c), none] [] w _
  iterate 3 refine h_s rfl ?_
  refine h_cv rfl rfl rfl x0 rfl rfl (x_isVisit x0 XR _ _) ?_
  refine h_n (st2 := [_]) rfl ?_
  refine hz_eq rfl rfl (fun h6 => ?_) (fun h6 => ?_)
  · refine h_s rfl ?_
    refine h_k (y := (-1000001)) rfl rfl ?_
    refine hq_v rfl rfl rfl x0 rfl rfl (x_found RC 0 (by omega) _ (by decide)) (fun v9 w9 q9 => ?_)
    obtain ⟨rfl, q2, q3⟩ := q9
    refine h_n (st2 := [_]) rfl ?_
    exact h_ri rfl rfl ⟨rfl, q2, q3⟩
  · refine h_s rfl ?_
    refine h_gf rfl rfl rfl x0 rfl ?_
    refine h_s rfl ?_
    refine h_cv rfl rfl rfl r0 rfl rfl (x_hasRoom XR _) ?_
    refine h_n (st2 := [_]) rfl ?_
    refine hz_ne rfl rfl (fun h17 => ?_) (fun h17 => ?_)
    · exact absurd hb (by simp [h6, h17])
    · refine h_s rfl ?_
      refine h_k (y := (-1000001)) rfl rfl ?_
      refine hq_v rfl rfl rfl x0 rfl rfl (x_found RC 0 (by omega) _ (by decide)) (fun v9 w9 q9 => ?_)
      obtain ⟨rfl, q2, q3⟩ := q9
      refine h_n (st2 := [_]) rfl ?_
      exact h_ri rfl rfl ⟨rfl, q2, q3⟩
set_option maxRecDepth 100000 in
set_option maxHeartbeats 4000000 in
theorem x_step_b (R : XW w s n st ks kp tp tn bo so nu) (a b c : Int32) (hb : ((inN a n && inN b 24) && inN c 16) = false)  : ab_Q X kX5_step [.ref 0, .int a, .int b, .int c] w (XP w (-1000001) s n (bump st 0) ks kp tp tn bo so nu) := by
  have R0 := R
  obtain ⟨x0, XR, ⟨sd, nd, XD⟩, ⟨sk, nk, XK, hkp⟩, XPl, XT, XS, x45, xl⟩ := R
  have r0 := XR.1
  have p0 := XPl.1
  have d0 := XD.1
  have hn : n ≤ 8 := XR.2.2.2.2.2.2.2
  have RC := R0
  show ab_H X kX5_step 0 [some (.ref 0), some (.int a), some (.int b), some (.int c), none] [] w _
  iterate 3 refine h_s rfl ?_
  refine h_cv rfl rfl rfl x0 rfl rfl (x_isVisit x0 XR _ _) ?_
  refine h_n (st2 := [_]) rfl ?_
  refine hz_eq rfl rfl (fun h6 => ?_) (fun h6 => ?_)
  · refine h_s rfl ?_
    refine h_k (y := (-1000001)) rfl rfl ?_
    refine hq_v rfl rfl rfl x0 rfl rfl (x_found RC 0 (by omega) _ (by decide)) (fun v9 w9 q9 => ?_)
    obtain ⟨rfl, q2, q3⟩ := q9
    refine h_n (st2 := [_]) rfl ?_
    exact h_ri rfl rfl ⟨rfl, q2, q3⟩
  · refine h_s rfl ?_
    refine h_k (y := 16) rfl rfl ?_
    refine h_c rfl (x_isBelow _ 16 (by decide)) ?_
    refine h_n (st2 := [_]) rfl ?_
    refine hz_ne rfl rfl (fun h15 => ?_) (fun h15 => ?_)
    · refine h_s rfl ?_
      exact absurd hb (by simp [h6, h15])
    · refine h_s rfl ?_
      refine h_k (y := (-1000001)) rfl rfl ?_
      refine hq_v rfl rfl rfl x0 rfl rfl (x_found RC 0 (by omega) _ (by decide)) (fun v9 w9 q9 => ?_)
      obtain ⟨rfl, q2, q3⟩ := q9
      refine h_n (st2 := [_]) rfl ?_
      exact h_ri rfl rfl ⟨rfl, q2, q3⟩
set_option maxRecDepth 100000 in
set_option maxHeartbeats 4000000 in
theorem x_reach_b (R : XW w s n st ks kp tp tn bo so nu) (a b : Int32) (hb : (inN a n && inN b 24) = false)  : ab_Q X kX5_reach [.ref 0, .int a, .int b] w (XP w (-1000001) s n (bump st 0) ks kp tp tn bo so nu) := by
  have R0 := R
  obtain ⟨x0, XR, ⟨sd, nd, XD⟩, ⟨sk, nk, XK, hkp⟩, XPl, XT, XS, x45, xl⟩ := R
  have r0 := XR.1
  have p0 := XPl.1
  have d0 := XD.1
  have hn : n ≤ 8 := XR.2.2.2.2.2.2.2
  have RC := R0
  show ab_H X kX5_reach 0 [some (.ref 0), some (.int a), some (.int b)] [] w _
  iterate 3 refine h_s rfl ?_
  refine h_cv rfl rfl rfl x0 rfl rfl (x_isVisit x0 XR _ _) ?_
  refine h_n (st2 := [_]) rfl ?_
  refine hz_ne rfl rfl (fun h6 => ?_) (fun h6 => ?_)
  · exact absurd hb (by simp [h6])
  · refine h_s rfl ?_
    refine h_k (y := (-1000001)) rfl rfl ?_
    refine hq_v rfl rfl rfl x0 rfl rfl (x_found RC 0 (by omega) _ (by decide)) (fun v9 w9 q9 => ?_)
    obtain ⟨rfl, q2, q3⟩ := q9
    refine h_n (st2 := [_]) rfl ?_
    exact h_ri rfl rfl ⟨rfl, q2, q3⟩
set_option maxRecDepth 100000 in
set_option maxHeartbeats 4000000 in
theorem x_off_b (R : XW w s n st ks kp tp tn bo so nu) (a : Int32) (hb : (inN a 24) = false)  : ab_Q X kX5_off [.ref 0, .int a] w (XP w (-1000001) s n (bump st 0) ks kp tp tn bo so nu) := by
  have R0 := R
  obtain ⟨x0, XR, ⟨sd, nd, XD⟩, ⟨sk, nk, XK, hkp⟩, XPl, XT, XS, x45, xl⟩ := R
  have r0 := XR.1
  have p0 := XPl.1
  have d0 := XD.1
  have hn : n ≤ 8 := XR.2.2.2.2.2.2.2
  have RC := R0
  show ab_H X kX5_off 0 [some (.ref 0), some (.int a)] [] w _
  refine h_s rfl ?_
  refine h_k (y := 24) rfl rfl ?_
  refine h_c rfl (x_isBelow _ 24 (by decide)) ?_
  refine h_n (st2 := [_]) rfl ?_
  refine hz_ne rfl rfl (fun h6 => ?_) (fun h6 => ?_)
  · exact absurd hb (by simp [h6])
  · refine h_s rfl ?_
    refine h_k (y := (-1000001)) rfl rfl ?_
    refine hq_v rfl rfl rfl x0 rfl rfl (x_found RC 0 (by omega) _ (by decide)) (fun v9 w9 q9 => ?_)
    obtain ⟨rfl, q2, q3⟩ := q9
    refine h_n (st2 := [_]) rfl ?_
    exact h_ri rfl rfl ⟨rfl, q2, q3⟩
set_option maxRecDepth 100000 in
set_option maxHeartbeats 4000000 in
theorem x_hours_b (R : XW w s n st ks kp tp tn bo so nu) (a : Int32) (hb : (inN a n) = false)  : ab_Q X kX5_hours [.ref 0, .int a] w (XP w (-1000001) s n (bump st 0) ks kp tp tn bo so nu) := by
  have R0 := R
  obtain ⟨x0, XR, ⟨sd, nd, XD⟩, ⟨sk, nk, XK, hkp⟩, XPl, XT, XS, x45, xl⟩ := R
  have r0 := XR.1
  have p0 := XPl.1
  have d0 := XD.1
  have hn : n ≤ 8 := XR.2.2.2.2.2.2.2
  have RC := R0
  show ab_H X kX5_hours 0 [some (.ref 0), some (.int a), none, none] [] w _
  refine h_s rfl ?_
  refine h_gf rfl rfl rfl x0 rfl ?_
  refine h_s rfl ?_
  refine h_cv rfl rfl rfl r0 rfl rfl (x_rhas XR _) ?_
  refine h_n (st2 := [_]) rfl ?_
  refine hz_ne rfl rfl (fun h8 => ?_) (fun h8 => ?_)
  · exact absurd hb (by simp [h8])
  · refine h_s rfl ?_
    refine h_k (y := (-1000001)) rfl rfl ?_
    refine hq_v rfl rfl rfl x0 rfl rfl (x_found RC 0 (by omega) _ (by decide)) (fun v9 w9 q9 => ?_)
    obtain ⟨rfl, q2, q3⟩ := q9
    refine h_n (st2 := [_]) rfl ?_
    exact h_ri rfl rfl ⟨rfl, q2, q3⟩
set_option maxRecDepth 100000 in
set_option maxHeartbeats 4000000 in
theorem x_latest_b (R : XW w s n st ks kp tp tn bo so nu) (a : Int32) (hb : (inN a n) = false)  : ab_Q X kX5_latest [.ref 0, .int a] w (XP w (-1000001) s n (bump st 0) ks kp tp tn bo so nu) := by
  have R0 := R
  obtain ⟨x0, XR, ⟨sd, nd, XD⟩, ⟨sk, nk, XK, hkp⟩, XPl, XT, XS, x45, xl⟩ := R
  have r0 := XR.1
  have p0 := XPl.1
  have d0 := XD.1
  have hn : n ≤ 8 := XR.2.2.2.2.2.2.2
  have RC := R0
  show ab_H X kX5_latest 0 [some (.ref 0), some (.int a), none] [] w _
  refine h_s rfl ?_
  refine h_gf rfl rfl rfl x0 rfl ?_
  refine h_s rfl ?_
  refine h_cv rfl rfl rfl r0 rfl rfl (x_rhas XR _) ?_
  refine h_n (st2 := [_]) rfl ?_
  refine hz_ne rfl rfl (fun h8 => ?_) (fun h8 => ?_)
  · exact absurd hb (by simp [h8])
  · refine h_s rfl ?_
    refine h_k (y := (-1000001)) rfl rfl ?_
    refine hq_v rfl rfl rfl x0 rfl rfl (x_found RC 0 (by omega) _ (by decide)) (fun v9 w9 q9 => ?_)
    obtain ⟨rfl, q2, q3⟩ := q9
    refine h_n (st2 := [_]) rfl ?_
    exact h_ri rfl rfl ⟨rfl, q2, q3⟩
set_option maxRecDepth 100000 in
set_option maxHeartbeats 4000000 in
theorem x_best_b (R : XW w s n st ks kp tp tn bo so nu) (a : Int32) (hb : (inN a n) = false)  : ab_Q X kX5_best [.ref 0, .int a] w (XP w (-1000001) s n (bump st 0) ks kp tp tn bo so nu) := by
  have R0 := R
  obtain ⟨x0, XR, ⟨sd, nd, XD⟩, ⟨sk, nk, XK, hkp⟩, XPl, XT, XS, x45, xl⟩ := R
  have r0 := XR.1
  have p0 := XPl.1
  have d0 := XD.1
  have hn : n ≤ 8 := XR.2.2.2.2.2.2.2
  have RC := R0
  show ab_H X kX5_best 0 [some (.ref 0), some (.int a), none, none, none, none] [] w _
  refine h_s rfl ?_
  refine h_gf rfl rfl rfl x0 rfl ?_
  refine h_s rfl ?_
  refine h_cv rfl rfl rfl r0 rfl rfl (x_rhas XR _) ?_
  refine h_n (st2 := [_]) rfl ?_
  refine hz_ne rfl rfl (fun h8 => ?_) (fun h8 => ?_)
  · exact absurd hb (by simp [h8])
  · refine h_s rfl ?_
    refine h_k (y := (-1000001)) rfl rfl ?_
    refine hq_v rfl rfl rfl x0 rfl rfl (x_found RC 0 (by omega) _ (by decide)) (fun v9 w9 q9 => ?_)
    obtain ⟨rfl, q2, q3⟩ := q9
    refine h_n (st2 := [_]) rfl ?_
    exact h_ri rfl rfl ⟨rfl, q2, q3⟩
set_option maxRecDepth 100000 in
set_option maxHeartbeats 4000000 in
theorem x_beds_b (R : XW w s n st ks kp tp tn bo so nu) (a : Int32) (hb : (inN a n) = false)  : ab_Q X kX5_beds [.ref 0, .int a] w (XP w (-1000001) s n (bump st 0) ks kp tp tn bo so nu) := by
  have R0 := R
  obtain ⟨x0, XR, ⟨sd, nd, XD⟩, ⟨sk, nk, XK, hkp⟩, XPl, XT, XS, x45, xl⟩ := R
  have r0 := XR.1
  have p0 := XPl.1
  have d0 := XD.1
  have hn : n ≤ 8 := XR.2.2.2.2.2.2.2
  have RC := R0
  show ab_H X kX5_beds 0 [some (.ref 0), some (.int a)] [] w _
  refine h_s rfl ?_
  refine h_gf rfl rfl rfl x0 rfl ?_
  refine h_s rfl ?_
  refine h_cv rfl rfl rfl r0 rfl rfl (x_rhas XR _) ?_
  refine h_n (st2 := [_]) rfl ?_
  refine hz_ne rfl rfl (fun h8 => ?_) (fun h8 => ?_)
  · exact absurd hb (by simp [h8])
  · refine h_s rfl ?_
    refine h_k (y := (-1000001)) rfl rfl ?_
    refine hq_v rfl rfl rfl x0 rfl rfl (x_found RC 0 (by omega) _ (by decide)) (fun v9 w9 q9 => ?_)
    obtain ⟨rfl, q2, q3⟩ := q9
    refine h_n (st2 := [_]) rfl ?_
    exact h_ri rfl rfl ⟨rfl, q2, q3⟩
set_option maxRecDepth 100000 in
set_option maxHeartbeats 4000000 in
theorem x_ring_b (R : XW w s n st ks kp tp tn bo so nu) (a : Int32) (hb : (inN a n) = false)  : ab_Q X kX5_ring [.ref 0, .int a] w (XP w (-1000001) s n (bump st 0) ks kp tp tn bo so nu) := by
  have R0 := R
  obtain ⟨x0, XR, ⟨sd, nd, XD⟩, ⟨sk, nk, XK, hkp⟩, XPl, XT, XS, x45, xl⟩ := R
  have r0 := XR.1
  have p0 := XPl.1
  have d0 := XD.1
  have hn : n ≤ 8 := XR.2.2.2.2.2.2.2
  have RC := R0
  show ab_H X kX5_ring 0 [some (.ref 0), some (.int a), none, none, none, none] [] w _
  refine h_s rfl ?_
  refine h_gf rfl rfl rfl x0 rfl ?_
  refine h_s rfl ?_
  refine h_cv rfl rfl rfl r0 rfl rfl (x_rhas XR _) ?_
  refine h_n (st2 := [_]) rfl ?_
  refine hz_ne rfl rfl (fun h8 => ?_) (fun h8 => ?_)
  · exact absurd hb (by simp [h8])
  · refine h_s rfl ?_
    refine h_k (y := (-1000001)) rfl rfl ?_
    refine hq_v rfl rfl rfl x0 rfl rfl (x_found RC 0 (by omega) _ (by decide)) (fun v9 w9 q9 => ?_)
    obtain ⟨rfl, q2, q3⟩ := q9
    refine h_n (st2 := [_]) rfl ?_
    exact h_ri rfl rfl ⟨rfl, q2, q3⟩
set_option maxRecDepth 100000 in
set_option maxHeartbeats 4000000 in
theorem x_house_b (R : XW w s n st ks kp tp tn bo so nu) (a : Int32) (hb : (inN a 7) = false)  : ab_Q X kX5_house [.ref 0, .int a] w (XP w (-1000001) s n (bump st 0) ks kp tp tn bo so nu) := by
  have R0 := R
  obtain ⟨x0, XR, ⟨sd, nd, XD⟩, ⟨sk, nk, XK, hkp⟩, XPl, XT, XS, x45, xl⟩ := R
  have r0 := XR.1
  have p0 := XPl.1
  have d0 := XD.1
  have hn : n ≤ 8 := XR.2.2.2.2.2.2.2
  have RC := R0
  show ab_H X kX5_house 0 [some (.ref 0), some (.int a)] [] w _
  refine h_s rfl ?_
  refine h_c rfl (x_isKind _) ?_
  refine h_n (st2 := [_]) rfl ?_
  refine hz_ne rfl rfl (fun h4 => ?_) (fun h4 => ?_)
  · exact absurd hb (by simp [h4])
  · refine h_s rfl ?_
    refine h_k (y := (-1000001)) rfl rfl ?_
    refine hq_v rfl rfl rfl x0 rfl rfl (x_found RC 0 (by omega) _ (by decide)) (fun v9 w9 q9 => ?_)
    obtain ⟨rfl, q2, q3⟩ := q9
    refine h_n (st2 := [_]) rfl ?_
    exact h_ri rfl rfl ⟨rfl, q2, q3⟩
set_option maxRecDepth 100000 in
set_option maxHeartbeats 4000000 in
theorem x_name_b (R : XW w s n st ks kp tp tn bo so nu) (a b c : Int32) (z : Bool) (hb : (inN a n && inN b 2 && inN c 8) = false)  : ab_Q X kX5_name [.ref 0, .int a, .int b, .int c, .int (z01 z)] w (XP w (-1000001) s n (bump st 0) ks kp tp tn bo so nu) := by
  have R0 := R
  obtain ⟨x0, XR, ⟨sd, nd, XD⟩, ⟨sk, nk, XK, hkp⟩, XPl, XT, XS, x45, xl⟩ := R
  have r0 := XR.1
  have p0 := XPl.1
  have d0 := XD.1
  have hn : n ≤ 8 := XR.2.2.2.2.2.2.2
  have RC := R0
  show ab_H X kX5_name 0 [some (.ref 0), some (.int a), some (.int b), some (.int c), some (.int (z01 z)), none, none] [] w _
  cases ha : inN a n with
  | false =>
    refine h_s rfl ?_
    refine h_gf rfl rfl rfl x0 rfl ?_
    refine h_s rfl ?_
    refine h_cv rfl rfl rfl r0 rfl rfl (x_atO XR a ha) ?_
    refine h_n (st2 := [_]) rfl ?_
    iterate 4 refine h_s rfl ?_
    refine h_k (y := (-1000001)) rfl rfl ?_
    refine hq_v rfl rfl rfl x0 rfl rfl (x_found RC 0 (by omega) _ (by decide)) (fun v9 w9 q9 => ?_)
    obtain ⟨rfl, q2, q3⟩ := q9
    refine h_n (st2 := [_]) rfl ?_
    exact h_ri rfl rfl ⟨rfl, q2, q3⟩
  | true =>
    obtain ⟨j, hj, rfl⟩ := inN_t (by omega) ha
    refine h_s rfl ?_
    refine h_gf rfl rfl rfl x0 rfl ?_
    refine h_s rfl ?_
    refine h_cv rfl rfl rfl r0 rfl rfl (x_at XR hj) ?_
    refine h_n (st2 := [_]) rfl ?_
    iterate 4 refine h_s rfl ?_
    refine h1_lt rfl rfl (fun h16 => ?_) (fun h16 => ?_)
    · refine h_s rfl ?_
      refine h_k (y := (-1000001)) rfl rfl ?_
      refine hq_v rfl rfl rfl x0 rfl rfl (x_found RC 0 (by omega) _ (by decide)) (fun v9 w9 q9 => ?_)
      obtain ⟨rfl, q2, q3⟩ := q9
      refine h_n (st2 := [_]) rfl ?_
      exact h_ri rfl rfl ⟨rfl, q2, q3⟩
    · refine h_s rfl ?_
      refine h_k (y := 1) rfl rfl ?_
      refine h2_gt rfl rfl (fun h21 => ?_) (fun h21 => ?_)
      · refine h_s rfl ?_
        refine h_k (y := (-1000001)) rfl rfl ?_
        refine hq_v rfl rfl rfl x0 rfl rfl (x_found RC 0 (by omega) _ (by decide)) (fun v9 w9 q9 => ?_)
        obtain ⟨rfl, q2, q3⟩ := q9
        refine h_n (st2 := [_]) rfl ?_
        exact h_ri rfl rfl ⟨rfl, q2, q3⟩
      · refine h_s rfl ?_
        refine h_k (y := 8) rfl rfl ?_
        refine h_c rfl (x_isBelow _ 8 (by decide)) ?_
        refine h_n (st2 := [_]) rfl ?_
        refine hz_ne rfl rfl (fun h30 => ?_) (fun h30 => ?_)
        · have hv : inN b 2 = true := inN_rng (m := 1) (by decide) h16 h21
          exact absurd hb (by simp [ha, h16, h21, h30, hv])
        · refine h_s rfl ?_
          refine h_k (y := (-1000001)) rfl rfl ?_
          refine hq_v rfl rfl rfl x0 rfl rfl (x_found RC 0 (by omega) _ (by decide)) (fun v9 w9 q9 => ?_)
          obtain ⟨rfl, q2, q3⟩ := q9
          refine h_n (st2 := [_]) rfl ?_
          exact h_ri rfl rfl ⟨rfl, q2, q3⟩
set_option maxRecDepth 100000 in
set_option maxHeartbeats 4000000 in
theorem x_door_b (R : XW w s n st ks kp tp tn bo so nu) (a : Int32) (z : Bool) (hb : (inN a 14) = false)  : ab_Q X kX5_door [.ref 0, .int a, .int (z01 z)] w (XP w (-1000001) s n (bump st 0) ks kp tp tn bo so nu) := by
  have R0 := R
  obtain ⟨x0, XR, ⟨sd, nd, XD⟩, ⟨sk, nk, XK, hkp⟩, XPl, XT, XS, x45, xl⟩ := R
  have r0 := XR.1
  have p0 := XPl.1
  have d0 := XD.1
  have hn : n ≤ 8 := XR.2.2.2.2.2.2.2
  have RC := R0
  show ab_H X kX5_door 0 [some (.ref 0), some (.int a), some (.int (z01 z)), none] [] w _
  refine h_s rfl ?_
  refine h_k (y := 14) rfl rfl ?_
  refine h_c rfl (x_isBelow _ 14 (by decide)) ?_
  refine h_n (st2 := [_]) rfl ?_
  refine hz_ne rfl rfl (fun h6 => ?_) (fun h6 => ?_)
  · exact absurd hb (by simp [h6])
  · refine h_s rfl ?_
    refine h_k (y := (-1000001)) rfl rfl ?_
    refine hq_v rfl rfl rfl x0 rfl rfl (x_found RC 0 (by omega) _ (by decide)) (fun v9 w9 q9 => ?_)
    obtain ⟨rfl, q2, q3⟩ := q9
    refine h_n (st2 := [_]) rfl ?_
    exact h_ri rfl rfl ⟨rfl, q2, q3⟩
set_option maxRecDepth 100000 in
set_option maxHeartbeats 4000000 in
theorem x_open_b (R : XW w s n st ks kp tp tn bo so nu) (a : Int32) (hb : (inN a 24) = false)  : ab_Q X kX5_open [.ref 0, .int a] w (XP w (-1000001) s n (bump st 0) ks kp tp tn bo so nu) := by
  have R0 := R
  obtain ⟨x0, XR, ⟨sd, nd, XD⟩, ⟨sk, nk, XK, hkp⟩, XPl, XT, XS, x45, xl⟩ := R
  have r0 := XR.1
  have p0 := XPl.1
  have d0 := XD.1
  have hn : n ≤ 8 := XR.2.2.2.2.2.2.2
  have RC := R0
  show ab_H X kX5_open 0 [some (.ref 0), some (.int a), none, none, none, none] [] w _
  refine h_s rfl ?_
  refine h_k (y := 24) rfl rfl ?_
  refine h_c rfl (x_isBelow _ 24 (by decide)) ?_
  refine h_n (st2 := [_]) rfl ?_
  refine hz_ne rfl rfl (fun h6 => ?_) (fun h6 => ?_)
  · exact absurd hb (by simp [h6])
  · refine h_s rfl ?_
    refine h_k (y := (-1000001)) rfl rfl ?_
    refine hq_v rfl rfl rfl x0 rfl rfl (x_found RC 0 (by omega) _ (by decide)) (fun v9 w9 q9 => ?_)
    obtain ⟨rfl, q2, q3⟩ := q9
    refine h_n (st2 := [_]) rfl ?_
    exact h_ri rfl rfl ⟨rfl, q2, q3⟩
set_option maxRecDepth 100000 in
set_option maxHeartbeats 4000000 in
theorem x_worth_b (R : XW w s n st ks kp tp tn bo so nu) (a b : Int32) (hb : (inN a n && inN b 24) = false)  : ab_Q X kX5_worth [.ref 0, .int a, .int b] w (XP w (-1000001) s n (bump st 0) ks kp tp tn bo so nu) := by
  have R0 := R
  obtain ⟨x0, XR, ⟨sd, nd, XD⟩, ⟨sk, nk, XK, hkp⟩, XPl, XT, XS, x45, xl⟩ := R
  have r0 := XR.1
  have p0 := XPl.1
  have d0 := XD.1
  have hn : n ≤ 8 := XR.2.2.2.2.2.2.2
  have RC := R0
  show ab_H X kX5_worth 0 [some (.ref 0), some (.int a), some (.int b), none] [] w _
  refine h_s rfl ?_
  refine h_gf rfl rfl rfl x0 rfl ?_
  refine h_s rfl ?_
  refine h_cv rfl rfl rfl r0 rfl rfl (x_rhas XR _) ?_
  refine h_n (st2 := [_]) rfl ?_
  refine hz_eq rfl rfl (fun h8 => ?_) (fun h8 => ?_)
  · refine h_s rfl ?_
    refine h_k (y := (-1000001)) rfl rfl ?_
    refine hq_v rfl rfl rfl x0 rfl rfl (x_found RC 0 (by omega) _ (by decide)) (fun v9 w9 q9 => ?_)
    obtain ⟨rfl, q2, q3⟩ := q9
    refine h_n (st2 := [_]) rfl ?_
    exact h_ri rfl rfl ⟨rfl, q2, q3⟩
  · refine h_s rfl ?_
    refine h_k (y := 24) rfl rfl ?_
    refine h_c rfl (x_isBelow _ 24 (by decide)) ?_
    refine h_n (st2 := [_]) rfl ?_
    refine hz_ne rfl rfl (fun h17 => ?_) (fun h17 => ?_)
    · exact absurd hb (by simp [h8, h17])
    · refine h_s rfl ?_
      refine h_k (y := (-1000001)) rfl rfl ?_
      refine hq_v rfl rfl rfl x0 rfl rfl (x_found RC 0 (by omega) _ (by decide)) (fun v9 w9 q9 => ?_)
      obtain ⟨rfl, q2, q3⟩ := q9
      refine h_n (st2 := [_]) rfl ?_
      exact h_ri rfl rfl ⟨rfl, q2, q3⟩
set_option maxRecDepth 100000 in
set_option maxHeartbeats 4000000 in
theorem x_helps_b (R : XW w s n st ks kp tp tn bo so nu) (a b : Int32) (hb : (inN a n && inN b 24) = false)  : ab_Q X kX5_helps [.ref 0, .int a, .int b] w (XP w (-1000001) s n (bump st 0) ks kp tp tn bo so nu) := by
  have R0 := R
  obtain ⟨x0, XR, ⟨sd, nd, XD⟩, ⟨sk, nk, XK, hkp⟩, XPl, XT, XS, x45, xl⟩ := R
  have r0 := XR.1
  have p0 := XPl.1
  have d0 := XD.1
  have hn : n ≤ 8 := XR.2.2.2.2.2.2.2
  have RC := R0
  show ab_H X kX5_helps 0 [some (.ref 0), some (.int a), some (.int b), none, none, none, none, none] [] w _
  iterate 3 refine h_s rfl ?_
  refine h_cv rfl rfl rfl x0 rfl rfl (x_isVisit x0 XR _ _) ?_
  refine h_n (st2 := [_]) rfl ?_
  refine hz_ne rfl rfl (fun h6 => ?_) (fun h6 => ?_)
  · exact absurd hb (by simp [h6])
  · refine h_s rfl ?_
    refine h_k (y := (-1000001)) rfl rfl ?_
    refine hq_v rfl rfl rfl x0 rfl rfl (x_found RC 0 (by omega) _ (by decide)) (fun v9 w9 q9 => ?_)
    obtain ⟨rfl, q2, q3⟩ := q9
    refine h_n (st2 := [_]) rfl ?_
    exact h_ri rfl rfl ⟨rfl, q2, q3⟩
set_option maxRecDepth 100000 in
set_option maxHeartbeats 4000000 in
theorem x_needs_b (R : XW w s n st ks kp tp tn bo so nu) (a b : Int32) (hb : (inN a n && inN b 24) = false)  : ab_Q X kX5_needs [.ref 0, .int a, .int b] w (XP w (-1000001) s n (bump st 0) ks kp tp tn bo so nu) := by
  have R0 := R
  obtain ⟨x0, XR, ⟨sd, nd, XD⟩, ⟨sk, nk, XK, hkp⟩, XPl, XT, XS, x45, xl⟩ := R
  have r0 := XR.1
  have p0 := XPl.1
  have d0 := XD.1
  have hn : n ≤ 8 := XR.2.2.2.2.2.2.2
  have RC := R0
  show ab_H X kX5_needs 0 [some (.ref 0), some (.int a), some (.int b), none] [] w _
  iterate 3 refine h_s rfl ?_
  refine h_cv rfl rfl rfl x0 rfl rfl (x_isVisit x0 XR _ _) ?_
  refine h_n (st2 := [_]) rfl ?_
  refine hz_ne rfl rfl (fun h6 => ?_) (fun h6 => ?_)
  · exact absurd hb (by simp [h6])
  · refine h_s rfl ?_
    refine h_k (y := (-1000001)) rfl rfl ?_
    refine hq_v rfl rfl rfl x0 rfl rfl (x_found RC 0 (by omega) _ (by decide)) (fun v9 w9 q9 => ?_)
    obtain ⟨rfl, q2, q3⟩ := q9
    refine h_n (st2 := [_]) rfl ?_
    exact h_ri rfl rfl ⟨rfl, q2, q3⟩
set_option maxRecDepth 100000 in
set_option maxHeartbeats 4000000 in
theorem x_law_b (R : XW w s n st ks kp tp tn bo so nu) (a : Int32) (hb : (inN a 24) = false)  : ab_Q X kX5_law [.ref 0, .int a] w (XP w (-1000001) s n (bump st 0) ks kp tp tn bo so nu) := by
  have R0 := R
  obtain ⟨x0, XR, ⟨sd, nd, XD⟩, ⟨sk, nk, XK, hkp⟩, XPl, XT, XS, x45, xl⟩ := R
  have r0 := XR.1
  have p0 := XPl.1
  have d0 := XD.1
  have hn : n ≤ 8 := XR.2.2.2.2.2.2.2
  have RC := R0
  show ab_H X kX5_law 0 [some (.ref 0), some (.int a), none, none, none] [] w _
  refine h_s rfl ?_
  refine h_k (y := 24) rfl rfl ?_
  refine h_c rfl (x_isBelow _ 24 (by decide)) ?_
  refine h_n (st2 := [_]) rfl ?_
  refine hz_ne rfl rfl (fun h6 => ?_) (fun h6 => ?_)
  · exact absurd hb (by simp [h6])
  · refine h_s rfl ?_
    refine h_k (y := (-1000001)) rfl rfl ?_
    refine hq_v rfl rfl rfl x0 rfl rfl (x_found RC 0 (by omega) _ (by decide)) (fun v9 w9 q9 => ?_)
    obtain ⟨rfl, q2, q3⟩ := q9
    refine h_n (st2 := [_]) rfl ?_
    exact h_ri rfl rfl ⟨rfl, q2, q3⟩
set_option maxRecDepth 100000 in
set_option maxHeartbeats 4000000 in
theorem x_quarrel_b (R : XW w s n st ks kp tp tn bo so nu) (a b c : Int32) (hb : (inN a n && inN b n && !decide (a = b) && inN c 24) = false)  : ab_Q X kX5_quarrel [.ref 0, .int a, .int b, .int c] w (XP w (-1000001) s n (bump st 0) ks kp tp tn bo so nu) := by
  have R0 := R
  obtain ⟨x0, XR, ⟨sd, nd, XD⟩, ⟨sk, nk, XK, hkp⟩, XPl, XT, XS, x45, xl⟩ := R
  have r0 := XR.1
  have p0 := XPl.1
  have d0 := XD.1
  have hn : n ≤ 8 := XR.2.2.2.2.2.2.2
  have RC := R0
  show ab_H X kX5_quarrel 0 [some (.ref 0), some (.int a), some (.int b), some (.int c), none, none] [] w _
  refine h_s rfl ?_
  refine h_gf rfl rfl rfl x0 rfl ?_
  refine h_s rfl ?_
  refine h_cv rfl rfl rfl r0 rfl rfl (x_rhas XR _) ?_
  refine h_n (st2 := [_]) rfl ?_
  refine hz_eq rfl rfl (fun h8 => ?_) (fun h8 => ?_)
  · refine h_s rfl ?_
    refine h_k (y := (-1000001)) rfl rfl ?_
    refine hq_v rfl rfl rfl x0 rfl rfl (x_found RC 0 (by omega) _ (by decide)) (fun v9 w9 q9 => ?_)
    obtain ⟨rfl, q2, q3⟩ := q9
    refine h_n (st2 := [_]) rfl ?_
    exact h_ri rfl rfl ⟨rfl, q2, q3⟩
  · refine h_s rfl ?_
    refine h_gf rfl rfl rfl x0 rfl ?_
    refine h_s rfl ?_
    refine h_cv rfl rfl rfl r0 rfl rfl (x_rhas XR _) ?_
    refine h_n (st2 := [_]) rfl ?_
    refine hz_eq rfl rfl (fun h19 => ?_) (fun h19 => ?_)
    · refine h_s rfl ?_
      refine h_k (y := (-1000001)) rfl rfl ?_
      refine hq_v rfl rfl rfl x0 rfl rfl (x_found RC 0 (by omega) _ (by decide)) (fun v9 w9 q9 => ?_)
      obtain ⟨rfl, q2, q3⟩ := q9
      refine h_n (st2 := [_]) rfl ?_
      exact h_ri rfl rfl ⟨rfl, q2, q3⟩
    · iterate 2 refine h_s rfl ?_
      refine h2_eq rfl rfl (fun h24 => ?_) (fun h24 => ?_)
      · refine h_s rfl ?_
        refine h_k (y := (-1000001)) rfl rfl ?_
        refine hq_v rfl rfl rfl x0 rfl rfl (x_found RC 0 (by omega) _ (by decide)) (fun v9 w9 q9 => ?_)
        obtain ⟨rfl, q2, q3⟩ := q9
        refine h_n (st2 := [_]) rfl ?_
        exact h_ri rfl rfl ⟨rfl, q2, q3⟩
      · refine h_s rfl ?_
        refine h_k (y := 24) rfl rfl ?_
        refine h_c rfl (x_isBelow _ 24 (by decide)) ?_
        refine h_n (st2 := [_]) rfl ?_
        refine hz_ne rfl rfl (fun h33 => ?_) (fun h33 => ?_)
        · exact absurd hb (by simp [h8, h19, h24, h33])
        · refine h_s rfl ?_
          refine h_k (y := (-1000001)) rfl rfl ?_
          refine hq_v rfl rfl rfl x0 rfl rfl (x_found RC 0 (by omega) _ (by decide)) (fun v9 w9 q9 => ?_)
          obtain ⟨rfl, q2, q3⟩ := q9
          refine h_n (st2 := [_]) rfl ?_
          exact h_ri rfl rfl ⟨rfl, q2, q3⟩
set_option maxRecDepth 100000 in
set_option maxHeartbeats 4000000 in
theorem x_share_b (R : XW w s n st ks kp tp tn bo so nu) (a b c d : Int32) (hb : (inN a n && (inN b n && inN c 24) && inN d 2) = false)  : ab_Q X kX5_share [.ref 0, .int a, .int b, .int c, .int d] w (XP w (-1000001) s n (bump st 0) ks kp tp tn bo so nu) := by
  have R0 := R
  obtain ⟨x0, XR, ⟨sd, nd, XD⟩, ⟨sk, nk, XK, hkp⟩, XPl, XT, XS, x45, xl⟩ := R
  have r0 := XR.1
  have p0 := XPl.1
  have d0 := XD.1
  have hn : n ≤ 8 := XR.2.2.2.2.2.2.2
  have RC := R0
  show ab_H X kX5_share 0 [some (.ref 0), some (.int a), some (.int b), some (.int c), some (.int d), none, none, none, none, none, none, none, none] [] w _
  refine h_s rfl ?_
  refine h_gf rfl rfl rfl x0 rfl ?_
  refine h_s rfl ?_
  refine h_cv rfl rfl rfl r0 rfl rfl (x_rhas XR _) ?_
  refine h_n (st2 := [_]) rfl ?_
  refine hz_eq rfl rfl (fun h8 => ?_) (fun h8 => ?_)
  · refine h_s rfl ?_
    refine h_k (y := (-1000001)) rfl rfl ?_
    refine hq_v rfl rfl rfl x0 rfl rfl (x_found RC 0 (by omega) _ (by decide)) (fun v9 w9 q9 => ?_)
    obtain ⟨rfl, q2, q3⟩ := q9
    refine h_n (st2 := [_]) rfl ?_
    exact h_ri rfl rfl ⟨rfl, q2, q3⟩
  · iterate 3 refine h_s rfl ?_
    refine h_cv rfl rfl rfl x0 rfl rfl (x_isVisit x0 XR _ _) ?_
    refine h_n (st2 := [_]) rfl ?_
    refine hz_eq rfl rfl (fun h17 => ?_) (fun h17 => ?_)
    · refine h_s rfl ?_
      refine h_k (y := (-1000001)) rfl rfl ?_
      refine hq_v rfl rfl rfl x0 rfl rfl (x_found RC 0 (by omega) _ (by decide)) (fun v9 w9 q9 => ?_)
      obtain ⟨rfl, q2, q3⟩ := q9
      refine h_n (st2 := [_]) rfl ?_
      exact h_ri rfl rfl ⟨rfl, q2, q3⟩
    · refine h_s rfl ?_
      refine h1_lt rfl rfl (fun h22 => ?_) (fun h22 => ?_)
      · refine h_s rfl ?_
        refine h_k (y := (-1000001)) rfl rfl ?_
        refine hq_v rfl rfl rfl x0 rfl rfl (x_found RC 0 (by omega) _ (by decide)) (fun v9 w9 q9 => ?_)
        obtain ⟨rfl, q2, q3⟩ := q9
        refine h_n (st2 := [_]) rfl ?_
        exact h_ri rfl rfl ⟨rfl, q2, q3⟩
      · refine h_s rfl ?_
        refine h_k (y := 1) rfl rfl ?_
        refine h2_le rfl rfl (fun h28 => ?_) (fun h28 => ?_)
        · have hv : inN d 2 = true := inN_rng (m := 1) (by decide) h22 (Int32.not_lt.mpr h28)
          exact absurd hb (by simp [h8, h17, h22, h28, hv])
        · refine h_s rfl ?_
          refine h_k (y := (-1000001)) rfl rfl ?_
          refine hq_v rfl rfl rfl x0 rfl rfl (x_found RC 0 (by omega) _ (by decide)) (fun v9 w9 q9 => ?_)
          obtain ⟨rfl, q2, q3⟩ := q9
          refine h_n (st2 := [_]) rfl ?_
          exact h_ri rfl rfl ⟨rfl, q2, q3⟩
set_option maxRecDepth 100000 in
set_option maxHeartbeats 4000000 in
theorem x_hold_b (R : XW w s n st ks kp tp tn bo so nu) (a b : Int32) (hb : (inN a 10 && (decide (b = -1) || inN b n)) = false)  : ab_Q X kX5_hold [.ref 0, .int a, .int b] w (XP w (-1000001) s n (bump st 0) ks kp tp tn bo so nu) := by
  have R0 := R
  obtain ⟨x0, XR, ⟨sd, nd, XD⟩, ⟨sk, nk, XK, hkp⟩, XPl, XT, XS, x45, xl⟩ := R
  have r0 := XR.1
  have p0 := XPl.1
  have d0 := XD.1
  have hn : n ≤ 8 := XR.2.2.2.2.2.2.2
  have RC := R0
  show ab_H X kX5_hold 0 [some (.ref 0), some (.int a), some (.int b)] [] w _
  refine h_s rfl ?_
  refine h_k (y := 10) rfl rfl ?_
  refine h_c rfl (x_isBelow _ 10 (by decide)) ?_
  refine h_n (st2 := [_]) rfl ?_
  refine hz_eq rfl rfl (fun h6 => ?_) (fun h6 => ?_)
  · refine h_s rfl ?_
    refine h_k (y := (-1000001)) rfl rfl ?_
    refine hq_v rfl rfl rfl x0 rfl rfl (x_found RC 0 (by omega) _ (by decide)) (fun v9 w9 q9 => ?_)
    obtain ⟨rfl, q2, q3⟩ := q9
    refine h_n (st2 := [_]) rfl ?_
    exact h_ri rfl rfl ⟨rfl, q2, q3⟩
  · refine h_s rfl ?_
    refine h_k (y := (-1)) rfl rfl ?_
    refine h2_eq rfl rfl (fun h11 => ?_) (fun h11 => ?_)
    · exact absurd hb (by simp [h6, h11])
    · refine h_s rfl ?_
      refine h_gf rfl rfl rfl x0 rfl ?_
      refine h_s rfl ?_
      refine h_cv rfl rfl rfl r0 rfl rfl (x_rhas XR _) ?_
      refine h_n (st2 := [_]) rfl ?_
      refine hz_ne rfl rfl (fun h22 => ?_) (fun h22 => ?_)
      · exact absurd hb (by simp [h6, h11, h22])
      · refine h_s rfl ?_
        refine h_k (y := (-1000001)) rfl rfl ?_
        refine hq_v rfl rfl rfl x0 rfl rfl (x_found RC 0 (by omega) _ (by decide)) (fun v9 w9 q9 => ?_)
        obtain ⟨rfl, q2, q3⟩ := q9
        refine h_n (st2 := [_]) rfl ?_
        exact h_ri rfl rfl ⟨rfl, q2, q3⟩
set_option maxRecDepth 100000 in
set_option maxHeartbeats 4000000 in
theorem x_as_b (R : XW w s n st ks kp tp tn bo so nu) (a b : Int32) (hb : (inN a 10 && inN b 7) = false)  : ab_Q X kX5_as [.ref 0, .int a, .int b] w (XP w (-1000001) s n (bump st 0) ks kp tp tn bo so nu) := by
  have R0 := R
  obtain ⟨x0, XR, ⟨sd, nd, XD⟩, ⟨sk, nk, XK, hkp⟩, XPl, XT, XS, x45, xl⟩ := R
  have r0 := XR.1
  have p0 := XPl.1
  have d0 := XD.1
  have hn : n ≤ 8 := XR.2.2.2.2.2.2.2
  have RC := R0
  show ab_H X kX5_as 0 [some (.ref 0), some (.int a), some (.int b), none] [] w _
  refine h_s rfl ?_
  refine h_k (y := 10) rfl rfl ?_
  refine h_c rfl (x_isBelow _ 10 (by decide)) ?_
  refine h_n (st2 := [_]) rfl ?_
  refine hz_eq rfl rfl (fun h6 => ?_) (fun h6 => ?_)
  · refine h_s rfl ?_
    refine h_k (y := (-1000001)) rfl rfl ?_
    refine hq_v rfl rfl rfl x0 rfl rfl (x_found RC 0 (by omega) _ (by decide)) (fun v9 w9 q9 => ?_)
    obtain ⟨rfl, q2, q3⟩ := q9
    refine h_n (st2 := [_]) rfl ?_
    exact h_ri rfl rfl ⟨rfl, q2, q3⟩
  · refine h_s rfl ?_
    refine h_c rfl (x_isKind _) ?_
    refine h_n (st2 := [_]) rfl ?_
    refine hz_ne rfl rfl (fun h13 => ?_) (fun h13 => ?_)
    · exact absurd hb (by simp [h6, h13])
    · refine h_s rfl ?_
      refine h_k (y := (-1000001)) rfl rfl ?_
      refine hq_v rfl rfl rfl x0 rfl rfl (x_found RC 0 (by omega) _ (by decide)) (fun v9 w9 q9 => ?_)
      obtain ⟨rfl, q2, q3⟩ := q9
      refine h_n (st2 := [_]) rfl ?_
      exact h_ri rfl rfl ⟨rfl, q2, q3⟩
end XK
