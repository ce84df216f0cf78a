/-! THE REFERENCE: calls that only tell, 1 -/
section M8
variable {X : List Int32} {w : ab_W} {s : List Int32} {n : Nat} {st ks : List Int32} {kp : Bool} {tp : List Int32} {tn : Nat} {bo so nu : List Int32}
set_option maxRecDepth 100000 in
set_option maxHeartbeats 4000000 in
theorem m_of_b (R : MW w s n st ks kp tp tn bo so nu) (a b : Int32) (hb : (inN a n && inN b 8) = false)  : ab_Q X kX6_of [.ref 54, .int a, .int b] w (MP w (-1000001) s n (bump st 0) ks kp tp tn bo so nu) := by
  have M := R.ms
  have R0 := R
  obtain ⟨oth, nz, mv, fr, to, vl, wr, a54, a55, a56, a57, a58, a59, a60, a61, a62, a63, a64, l, h0, hn, ht⟩ := R
  show ab_H X kX6_of 0 [some (.ref 54), some (.int a), some (.int b)] [] w _
  iterate 2 refine h_s rfl ?_
  refine h_cv rfl rfl rfl a54 rfl rfl (m_isHouse M _) ?_
  refine hz_eq rfl rfl (fun h5 => ?_) (fun h5 => ?_)
  · iterate 2 refine h_s rfl ?_
    refine hq_v rfl rfl rfl a54 rfl rfl (m_finds R0 0 (by omega) _ (by decide)) (fun v1 w1 q1 => ?_)
    obtain ⟨rfl, q2, q3⟩ := q1
    exact h_ri rfl rfl ⟨rfl, q2, q3⟩
  · iterate 4 refine h_s rfl ?_
    refine h_c rfl (m_inZ (m := 8) _ rfl rfl) ?_
    refine hz_eq rfl rfl (fun h17 => ?_) (fun h17 => ?_)
    · iterate 2 refine h_s rfl ?_
      refine hq_v rfl rfl rfl a54 rfl rfl (m_finds R0 0 (by omega) _ (by decide)) (fun v1 w1 q1 => ?_)
      obtain ⟨rfl, q2, q3⟩ := q1
      exact h_ri rfl rfl ⟨rfl, q2, q3⟩
    · exact absurd hb (by simp [h5, h17])
set_option maxRecDepth 100000 in
set_option maxHeartbeats 4000000 in
theorem m_lets_b (R : MW w s n st ks kp tp tn bo so nu) (a b c : Int32) (hb : (inN a n && (inN b n && inN c 24)) = false)  : ab_Q X kX6_lets [.ref 54, .int a, .int b, .int c] w (MP w (-1000001) s n (bump st 0) ks kp tp tn bo so nu) := by
  have M := R.ms
  have R0 := R
  obtain ⟨oth, nz, mv, fr, to, vl, wr, a54, a55, a56, a57, a58, a59, a60, a61, a62, a63, a64, l, h0, hn, ht⟩ := R
  show ab_H X kX6_lets 0 [some (.ref 54), some (.int a), some (.int b), some (.int c)] [] w _
  iterate 2 refine h_s rfl ?_
  refine h_cv rfl rfl rfl a54 rfl rfl (m_isHouse M _) ?_
  refine hz_eq rfl rfl (fun h5 => ?_) (fun h5 => ?_)
  · iterate 2 refine h_s rfl ?_
    refine hq_v rfl rfl rfl a54 rfl rfl (m_finds R0 0 (by omega) _ (by decide)) (fun v1 w1 q1 => ?_)
    obtain ⟨rfl, q2, q3⟩ := q1
    exact h_ri rfl rfl ⟨rfl, q2, q3⟩
  · iterate 3 refine h_s rfl ?_
    refine h_cv rfl rfl rfl a54 rfl rfl (m_isAsk M _ _) ?_
    refine hz_ne rfl rfl (fun h14 => ?_) (fun h14 => ?_)
    · exact absurd hb (by simp [h5, h14])
    · iterate 2 refine h_s rfl ?_
      refine hq_v rfl rfl rfl a54 rfl rfl (m_finds R0 0 (by omega) _ (by decide)) (fun v1 w1 q1 => ?_)
      obtain ⟨rfl, q2, q3⟩ := q1
      exact h_ri rfl rfl ⟨rfl, q2, q3⟩
set_option maxRecDepth 100000 in
set_option maxHeartbeats 4000000 in
theorem m_letting_b (R : MW w s n st ks kp tp tn bo so nu) (a b : Int32) (hb : (inN a n && inN b 24) = false)  : ab_Q X kX6_letting [.ref 54, .int a, .int b] w (MP w (-1000001) s n (bump st 0) ks kp tp tn bo so nu) := by
  have M := R.ms
  have R0 := R
  obtain ⟨oth, nz, mv, fr, to, vl, wr, a54, a55, a56, a57, a58, a59, a60, a61, a62, a63, a64, l, h0, hn, ht⟩ := R
  show ab_H X kX6_letting 0 [some (.ref 54), some (.int a), some (.int b)] [] w _
  iterate 3 refine h_s rfl ?_
  refine h_cv rfl rfl rfl a54 rfl rfl (m_isAsk M _ _) ?_
  refine hz_eq rfl rfl (fun h6 => ?_) (fun h6 => ?_)
  · iterate 2 refine h_s rfl ?_
    refine hq_v rfl rfl rfl a54 rfl rfl (m_finds R0 0 (by omega) _ (by decide)) (fun v1 w1 q1 => ?_)
    obtain ⟨rfl, q2, q3⟩ := q1
    exact h_ri rfl rfl ⟨rfl, q2, q3⟩
  · exact absurd hb (by simp [h6])
set_option maxRecDepth 100000 in
set_option maxHeartbeats 4000000 in
theorem m_joined_b (R : MW w s n st ks kp tp tn bo so nu) (a : Int32) (hb : (inN a (2 * n)) = false)  : ab_Q X kX6_joined [.ref 54, .int a] w (MP w (-1000001) s n (bump st 0) ks kp tp tn bo so nu) := by
  have M := R.ms
  have R0 := R
  obtain ⟨oth, nz, mv, fr, to, vl, wr, a54, a55, a56, a57, a58, a59, a60, a61, a62, a63, a64, l, h0, hn, ht⟩ := R
  show ab_H X kX6_joined 0 [some (.ref 54), some (.int a)] [] w _
  iterate 2 refine h_s rfl ?_
  refine h_cv rfl rfl rfl a54 rfl rfl (m_isRoom M _) ?_
  refine hz_eq rfl rfl (fun h5 => ?_) (fun h5 => ?_)
  · iterate 2 refine h_s rfl ?_
    refine hq_v rfl rfl rfl a54 rfl rfl (m_finds R0 0 (by omega) _ (by decide)) (fun v1 w1 q1 => ?_)
    obtain ⟨rfl, q2, q3⟩ := q1
    exact h_ri rfl rfl ⟨rfl, q2, q3⟩
  · exact absurd hb (by simp [h5])
set_option maxRecDepth 100000 in
set_option maxHeartbeats 4000000 in
theorem m_way_b (R : MW w s n st ks kp tp tn bo so nu) (a b c : Int32) (hb : ((inN a n && inN c 24) && inN b (2 * n)) = false)  : ab_Q X kX6_way [.ref 54, .int a, .int b, .int c] w (MP w (-1000001) s n (bump st 0) ks kp tp tn bo so nu) := by
  have M := R.ms
  have R0 := R
  obtain ⟨oth, nz, mv, fr, to, vl, wr, a54, a55, a56, a57, a58, a59, a60, a61, a62, a63, a64, l, h0, hn, ht⟩ := R
  show ab_H X kX6_way 0 [some (.ref 54), some (.int a), some (.int b), some (.int c), none] [] w _
  iterate 3 refine h_s rfl ?_
  refine h_cv rfl rfl rfl a54 rfl rfl (m_isAsk M _ _) ?_
  refine hz_eq rfl rfl (fun h6 => ?_) (fun h6 => ?_)
  · iterate 2 refine h_s rfl ?_
    refine hq_v rfl rfl rfl a54 rfl rfl (m_finds R0 0 (by omega) _ (by decide)) (fun v1 w1 q1 => ?_)
    obtain ⟨rfl, q2, q3⟩ := q1
    exact h_ri rfl rfl ⟨rfl, q2, q3⟩
  · iterate 2 refine h_s rfl ?_
    refine h_cv rfl rfl rfl a54 rfl rfl (m_isRoom M _) ?_
    refine hz_ne rfl rfl (fun h14 => ?_) (fun h14 => ?_)
    · exact absurd hb (by simp [h6, h14])
    · iterate 2 refine h_s rfl ?_
      refine hq_v rfl rfl rfl a54 rfl rfl (m_finds R0 0 (by omega) _ (by decide)) (fun v1 w1 q1 => ?_)
      obtain ⟨rfl, q2, q3⟩ := q1
      exact h_ri rfl rfl ⟨rfl, q2, q3⟩
set_option maxRecDepth 100000 in
set_option maxHeartbeats 4000000 in
theorem m_reach_b (R : MW w s n st ks kp tp tn bo so nu) (a b : Int32) (hb : (inN a n && inN b 24) = false)  : ab_Q X kX6_reach [.ref 54, .int a, .int b] w (MP w (-1000001) s n (bump st 0) ks kp tp tn bo so nu) := by
  have M := R.ms
  have R0 := R
  obtain ⟨oth, nz, mv, fr, to, vl, wr, a54, a55, a56, a57, a58, a59, a60, a61, a62, a63, a64, l, h0, hn, ht⟩ := R
  show ab_H X kX6_reach 0 [some (.ref 54), some (.int a), some (.int b)] [] w _
  iterate 3 refine h_s rfl ?_
  refine h_cv rfl rfl rfl a54 rfl rfl (m_isAsk M _ _) ?_
  refine hz_eq rfl rfl (fun h6 => ?_) (fun h6 => ?_)
  · iterate 2 refine h_s rfl ?_
    refine hq_v rfl rfl rfl a54 rfl rfl (m_finds R0 0 (by omega) _ (by decide)) (fun v1 w1 q1 => ?_)
    obtain ⟨rfl, q2, q3⟩ := q1
    exact h_ri rfl rfl ⟨rfl, q2, q3⟩
  · exact absurd hb (by simp [h6])
set_option maxRecDepth 100000 in
set_option maxHeartbeats 4000000 in
theorem m_off_b (R : MW w s n st ks kp tp tn bo so nu) (a : Int32) (hb : (inN a 24) = false)  : ab_Q X kX6_off [.ref 54, .int a] w (MP w (-1000001) s n (bump st 0) ks kp tp tn bo so nu) := by
  have M := R.ms
  have R0 := R
  obtain ⟨oth, nz, mv, fr, to, vl, wr, a54, a55, a56, a57, a58, a59, a60, a61, a62, a63, a64, l, h0, hn, ht⟩ := R
  show ab_H X kX6_off 0 [some (.ref 54), some (.int a)] [] w _
  refine h_s rfl ?_
  refine h_c rfl (m_isClock _) ?_
  refine hz_eq rfl rfl (fun h4 => ?_) (fun h4 => ?_)
  · iterate 2 refine h_s rfl ?_
    refine hq_v rfl rfl rfl a54 rfl rfl (m_finds R0 0 (by omega) _ (by decide)) (fun v1 w1 q1 => ?_)
    obtain ⟨rfl, q2, q3⟩ := q1
    exact h_ri rfl rfl ⟨rfl, q2, q3⟩
  · exact absurd hb (by simp [h4])
set_option maxRecDepth 100000 in
set_option maxHeartbeats 4000000 in
theorem m_hours_b (R : MW w s n st ks kp tp tn bo so nu) (a : Int32) (hb : (inN a n) = false)  : ab_Q X kX6_hours [.ref 54, .int a] w (MP w (-1000001) s n (bump st 0) ks kp tp tn bo so nu) := by
  have M := R.ms
  have R0 := R
  obtain ⟨oth, nz, mv, fr, to, vl, wr, a54, a55, a56, a57, a58, a59, a60, a61, a62, a63, a64, l, h0, hn, ht⟩ := R
  show ab_H X kX6_hours 0 [some (.ref 54), some (.int a)] [] w _
  iterate 2 refine h_s rfl ?_
  refine h_cv rfl rfl rfl a54 rfl rfl (m_isHouse M _) ?_
  refine hz_eq rfl rfl (fun h5 => ?_) (fun h5 => ?_)
  · iterate 2 refine h_s rfl ?_
    refine hq_v rfl rfl rfl a54 rfl rfl (m_finds R0 0 (by omega) _ (by decide)) (fun v1 w1 q1 => ?_)
    obtain ⟨rfl, q2, q3⟩ := q1
    exact h_ri rfl rfl ⟨rfl, q2, q3⟩
  · exact absurd hb (by simp [h5])
set_option maxRecDepth 100000 in
set_option maxHeartbeats 4000000 in
theorem m_latest_b (R : MW w s n st ks kp tp tn bo so nu) (a : Int32) (hb : (inN a n) = false)  : ab_Q X kX6_latest [.ref 54, .int a] w (MP w (-1000001) s n (bump st 0) ks kp tp tn bo so nu) := by
  have M := R.ms
  have R0 := R
  obtain ⟨oth, nz, mv, fr, to, vl, wr, a54, a55, a56, a57, a58, a59, a60, a61, a62, a63, a64, l, h0, hn, ht⟩ := R
  show ab_H X kX6_latest 0 [some (.ref 54), some (.int a), none, none] [] w _
  iterate 2 refine h_s rfl ?_
  refine h_cv rfl rfl rfl a54 rfl rfl (m_isHouse M _) ?_
  refine hz_ne rfl rfl (fun h5 => ?_) (fun h5 => ?_)
  · exact absurd hb (by simp [h5])
  · iterate 2 refine h_s rfl ?_
    refine hq_v rfl rfl rfl a54 rfl rfl (m_finds R0 0 (by omega) _ (by decide)) (fun v1 w1 q1 => ?_)
    obtain ⟨rfl, q2, q3⟩ := q1
    exact h_ri rfl rfl ⟨rfl, q2, q3⟩
set_option maxRecDepth 100000 in
set_option maxHeartbeats 4000000 in
theorem m_best_b (R : MW w s n st ks kp tp tn bo so nu) (a : Int32) (hb : (inN a n) = false)  : ab_Q X kX6_best [.ref 54, .int a] w (MP w (-1000001) s n (bump st 0) ks kp tp tn bo so nu) := by
  have M := R.ms
  have R0 := R
  obtain ⟨oth, nz, mv, fr, to, vl, wr, a54, a55, a56, a57, a58, a59, a60, a61, a62, a63, a64, l, h0, hn, ht⟩ := R
  show ab_H X kX6_best 0 [some (.ref 54), some (.int a), none, none, none, none] [] w _
  iterate 2 refine h_s rfl ?_
  refine h_cv rfl rfl rfl a54 rfl rfl (m_isHouse M _) ?_
  refine hz_ne rfl rfl (fun h5 => ?_) (fun h5 => ?_)
  · exact absurd hb (by simp [h5])
  · iterate 2 refine h_s rfl ?_
    refine hq_v rfl rfl rfl a54 rfl rfl (m_finds R0 0 (by omega) _ (by decide)) (fun v1 w1 q1 => ?_)
    obtain ⟨rfl, q2, q3⟩ := q1
    exact h_ri rfl rfl ⟨rfl, q2, q3⟩
set_option maxRecDepth 100000 in
set_option maxHeartbeats 4000000 in
theorem m_beds_b (R : MW w s n st ks kp tp tn bo so nu) (a : Int32) (hb : (inN a n) = false)  : ab_Q X kX6_beds [.ref 54, .int a] w (MP w (-1000001) s n (bump st 0) ks kp tp tn bo so nu) := by
  have M := R.ms
  have R0 := R
  obtain ⟨oth, nz, mv, fr, to, vl, wr, a54, a55, a56, a57, a58, a59, a60, a61, a62, a63, a64, l, h0, hn, ht⟩ := R
  show ab_H X kX6_beds 0 [some (.ref 54), some (.int a), none, none] [] w _
  iterate 2 refine h_s rfl ?_
  refine h_cv rfl rfl rfl a54 rfl rfl (m_isHouse M _) ?_
  refine hz_ne rfl rfl (fun h5 => ?_) (fun h5 => ?_)
  · exact absurd hb (by simp [h5])
  · iterate 2 refine h_s rfl ?_
    refine hq_v rfl rfl rfl a54 rfl rfl (m_finds R0 0 (by omega) _ (by decide)) (fun v1 w1 q1 => ?_)
    obtain ⟨rfl, q2, q3⟩ := q1
    exact h_ri rfl rfl ⟨rfl, q2, q3⟩
set_option maxRecDepth 100000 in
set_option maxHeartbeats 4000000 in
theorem m_ring_b (R : MW w s n st ks kp tp tn bo so nu) (a : Int32) (hb : (inN a n) = false)  : ab_Q X kX6_ring [.ref 54, .int a] w (MP w (-1000001) s n (bump st 0) ks kp tp tn bo so nu) := by
  have M := R.ms
  have R0 := R
  obtain ⟨oth, nz, mv, fr, to, vl, wr, a54, a55, a56, a57, a58, a59, a60, a61, a62, a63, a64, l, h0, hn, ht⟩ := R
  show ab_H X kX6_ring 0 [some (.ref 54), some (.int a), none, none, none, none, none] [] w _
  iterate 2 refine h_s rfl ?_
  refine h_cv rfl rfl rfl a54 rfl rfl (m_isHouse M _) ?_
  refine hz_ne rfl rfl (fun h5 => ?_) (fun h5 => ?_)
  · exact absurd hb (by simp [h5])
  · iterate 2 refine h_s rfl ?_
    refine hq_v rfl rfl rfl a54 rfl rfl (m_finds R0 0 (by omega) _ (by decide)) (fun v1 w1 q1 => ?_)
    obtain ⟨rfl, q2, q3⟩ := q1
    exact h_ri rfl rfl ⟨rfl, q2, q3⟩
set_option maxRecDepth 100000 in
set_option maxHeartbeats 4000000 in
theorem m_step_b (R : MW w s n st ks kp tp tn bo so nu) (a b c : Int32) (hb : ((inN a n && inN b 24) && inN c 16) = false)  : ab_Q X kX6_step [.ref 54, .int a, .int b, .int c] w (MP w (-1000001) s n (bump st 0) ks kp tp tn bo so nu) := by
  have M := R.ms
  have R0 := R
  obtain ⟨oth, nz, mv, fr, to, vl, wr, a54, a55, a56, a57, a58, a59, a60, a61, a62, a63, a64, l, h0, hn, ht⟩ := R
  show ab_H X kX6_step 0 [some (.ref 54), some (.int a), some (.int b), some (.int c), none, none, none, none, none, none] [] w _
  iterate 3 refine h_s rfl ?_
  refine h_cv rfl rfl rfl a54 rfl rfl (m_isAsk M _ _) ?_
  refine hz_eq rfl rfl (fun h6 => ?_) (fun h6 => ?_)
  · iterate 2 refine h_s rfl ?_
    refine hq_v rfl rfl rfl a54 rfl rfl (m_finds R0 0 (by omega) _ (by decide)) (fun v1 w1 q1 => ?_)
    obtain ⟨rfl, q2, q3⟩ := q1
    exact h_ri rfl rfl ⟨rfl, q2, q3⟩
  · iterate 4 refine h_s rfl ?_
    refine h_c rfl (m_inZ (m := 16) _ rfl rfl) ?_
    refine hz_ne rfl rfl (fun h18 => ?_) (fun h18 => ?_)
    · exact absurd hb (by simp [h6, h18])
    · iterate 2 refine h_s rfl ?_
      refine hq_v rfl rfl rfl a54 rfl rfl (m_finds R0 0 (by omega) _ (by decide)) (fun v1 w1 q1 => ?_)
      obtain ⟨rfl, q2, q3⟩ := q1
      exact h_ri rfl rfl ⟨rfl, q2, q3⟩
set_option maxRecDepth 100000 in
set_option maxHeartbeats 4000000 in
theorem m_noise_b (R : MW w s n st ks kp tp tn bo so nu) (a b c : Int32) (hb : ((inN a n && inN c 24) && inN b (2 * n)) = false)  : ab_Q X kX6_noise [.ref 54, .int a, .int b, .int c] w (MP w (-1000001) s n (bump st 0) ks kp tp tn bo so nu) := by
  have M := R.ms
  have R0 := R
  obtain ⟨oth, nz, mv, fr, to, vl, wr, a54, a55, a56, a57, a58, a59, a60, a61, a62, a63, a64, l, h0, hn, ht⟩ := R
  show ab_H X kX6_noise 0 [some (.ref 54), some (.int a), some (.int b), some (.int c)] [] w _
  iterate 3 refine h_s rfl ?_
  refine h_cv rfl rfl rfl a54 rfl rfl (m_isAsk M _ _) ?_
  refine hz_eq rfl rfl (fun h6 => ?_) (fun h6 => ?_)
  · iterate 2 refine h_s rfl ?_
    refine hq_v rfl rfl rfl a54 rfl rfl (m_finds R0 0 (by omega) _ (by decide)) (fun v1 w1 q1 => ?_)
    obtain ⟨rfl, q2, q3⟩ := q1
    exact h_ri rfl rfl ⟨rfl, q2, q3⟩
  · iterate 2 refine h_s rfl ?_
    refine h_cv rfl rfl rfl a54 rfl rfl (m_isRoom M _) ?_
    refine hz_ne rfl rfl (fun h14 => ?_) (fun h14 => ?_)
    · exact absurd hb (by simp [h6, h14])
    · iterate 2 refine h_s rfl ?_
      refine hq_v rfl rfl rfl a54 rfl rfl (m_finds R0 0 (by omega) _ (by decide)) (fun v1 w1 q1 => ?_)
      obtain ⟨rfl, q2, q3⟩ := q1
      exact h_ri rfl rfl ⟨rfl, q2, q3⟩
set_option maxRecDepth 100000 in
set_option maxHeartbeats 4000000 in
theorem m_house_b (R : MW w s n st ks kp tp tn bo so nu) (a : Int32) (hb : (inN a 7) = false)  : ab_Q X kX6_house [.ref 54, .int a] w (MP w (-1000001) s n (bump st 0) ks kp tp tn bo so nu) := by
  have M := R.ms
  have R0 := R
  obtain ⟨oth, nz, mv, fr, to, vl, wr, a54, a55, a56, a57, a58, a59, a60, a61, a62, a63, a64, l, h0, hn, ht⟩ := R
  show ab_H X kX6_house 0 [some (.ref 54), some (.int a)] [] w _
  iterate 4 refine h_s rfl ?_
  refine h_c rfl (m_inZ (m := 7) _ rfl rfl) ?_
  refine hz_ne rfl rfl (fun h9 => ?_) (fun h9 => ?_)
  · exact absurd hb (by simp [h9])
  · iterate 2 refine h_s rfl ?_
    refine hq_v rfl rfl rfl a54 rfl rfl (m_finds R0 0 (by omega) _ (by decide)) (fun v1 w1 q1 => ?_)
    obtain ⟨rfl, q2, q3⟩ := q1
    exact h_ri rfl rfl ⟨rfl, q2, q3⟩
set_option maxRecDepth 100000 in
set_option maxHeartbeats 4000000 in
theorem m_name_b (R : MW w s n st ks kp tp tn bo so nu) (a b c : Int32) (z : Bool) (hb : (inN a n && inN b 2 && inN c 8) = false)  : ab_Q X kX6_name [.ref 54, .int a, .int b, .int c, .int (z01 z)] w (MP w (-1000001) s n (bump st 0) ks kp tp tn bo so nu) := by
  have M := R.ms
  have R0 := R
  obtain ⟨oth, nz, mv, fr, to, vl, wr, a54, a55, a56, a57, a58, a59, a60, a61, a62, a63, a64, l, h0, hn, ht⟩ := R
  show ab_H X kX6_name 0 [some (.ref 54), some (.int a), some (.int b), some (.int c), some (.int (z01 z)), none, none] [] w _
  iterate 2 refine h_s rfl ?_
  refine h_cv rfl rfl rfl a54 rfl rfl (m_isHouse M _) ?_
  refine hz_eq rfl rfl (fun h5 => ?_) (fun h5 => ?_)
  · iterate 2 refine h_s rfl ?_
    refine hq_v rfl rfl rfl a54 rfl rfl (m_finds R0 0 (by omega) _ (by decide)) (fun v1 w1 q1 => ?_)
    obtain ⟨rfl, q2, q3⟩ := q1
    exact h_ri rfl rfl ⟨rfl, q2, q3⟩
  · iterate 4 refine h_s rfl ?_
    refine h_c rfl (m_inZ (m := 2) _ rfl rfl) ?_
    refine hz_eq rfl rfl (fun h15 => ?_) (fun h15 => ?_)
    · iterate 2 refine h_s rfl ?_
      refine hq_v rfl rfl rfl a54 rfl rfl (m_finds R0 0 (by omega) _ (by decide)) (fun v1 w1 q1 => ?_)
      obtain ⟨rfl, q2, q3⟩ := q1
      exact h_ri rfl rfl ⟨rfl, q2, q3⟩
    · iterate 4 refine h_s rfl ?_
      refine h_c rfl (m_inZ (m := 8) _ rfl rfl) ?_
      refine hz_ne rfl rfl (fun h27 => ?_) (fun h27 => ?_)
      · exact absurd hb (by simp [h5, h15, h27])
      · iterate 2 refine h_s rfl ?_
        refine hq_v rfl rfl rfl a54 rfl rfl (m_finds R0 0 (by omega) _ (by decide)) (fun v1 w1 q1 => ?_)
        obtain ⟨rfl, q2, q3⟩ := q1
        exact h_ri rfl rfl ⟨rfl, q2, q3⟩
set_option maxRecDepth 100000 in
set_option maxHeartbeats 4000000 in
theorem m_door_b (R : MW w s n st ks kp tp tn bo so nu) (a : Int32) (z : Bool) (hb : (inN a 14) = false)  : ab_Q X kX6_door [.ref 54, .int a, .int (z01 z)] w (MP w (-1000001) s n (bump st 0) ks kp tp tn bo so nu) := by
  have M := R.ms
  have R0 := R
  obtain ⟨oth, nz, mv, fr, to, vl, wr, a54, a55, a56, a57, a58, a59, a60, a61, a62, a63, a64, l, h0, hn, ht⟩ := R
  show ab_H X kX6_door 0 [some (.ref 54), some (.int a), some (.int (z01 z)), none] [] w _
  iterate 4 refine h_s rfl ?_
  refine h_c rfl (m_inZ (m := 14) _ rfl rfl) ?_
  refine hz_ne rfl rfl (fun h9 => ?_) (fun h9 => ?_)
  · exact absurd hb (by simp [h9])
  · iterate 2 refine h_s rfl ?_
    refine hq_v rfl rfl rfl a54 rfl rfl (m_finds R0 0 (by omega) _ (by decide)) (fun v1 w1 q1 => ?_)
    obtain ⟨rfl, q2, q3⟩ := q1
    exact h_ri rfl rfl ⟨rfl, q2, q3⟩
set_option maxRecDepth 100000 in
set_option maxHeartbeats 4000000 in
theorem m_open_b (R : MW w s n st ks kp tp tn bo so nu) (a : Int32) (hb : (inN a 24) = false)  : ab_Q X kX6_open [.ref 54, .int a] w (MP w (-1000001) s n (bump st 0) ks kp tp tn bo so nu) := by
  have M := R.ms
  have R0 := R
  obtain ⟨oth, nz, mv, fr, to, vl, wr, a54, a55, a56, a57, a58, a59, a60, a61, a62, a63, a64, l, h0, hn, ht⟩ := R
  show ab_H X kX6_open 0 [some (.ref 54), some (.int a), none, none, none, none] [] w _
  refine h_s rfl ?_
  refine h_c rfl (m_isClock _) ?_
  refine hz_ne rfl rfl (fun h4 => ?_) (fun h4 => ?_)
  · exact absurd hb (by simp [h4])
  · iterate 2 refine h_s rfl ?_
    refine hq_v rfl rfl rfl a54 rfl rfl (m_finds R0 0 (by omega) _ (by decide)) (fun v1 w1 q1 => ?_)
    obtain ⟨rfl, q2, q3⟩ := q1
    exact h_ri rfl rfl ⟨rfl, q2, q3⟩
set_option maxRecDepth 100000 in
set_option maxHeartbeats 4000000 in
theorem m_worth_b (R : MW w s n st ks kp tp tn bo so nu) (a b : Int32) (hb : (inN a n && inN b 24) = false)  : ab_Q X kX6_worth [.ref 54, .int a, .int b] w (MP w (-1000001) s n (bump st 0) ks kp tp tn bo so nu) := by
  have M := R.ms
  have R0 := R
  obtain ⟨oth, nz, mv, fr, to, vl, wr, a54, a55, a56, a57, a58, a59, a60, a61, a62, a63, a64, l, h0, hn, ht⟩ := R
  show ab_H X kX6_worth 0 [some (.ref 54), some (.int a), some (.int b), none, none, none] [] w _
  iterate 2 refine h_s rfl ?_
  refine h_cv rfl rfl rfl a54 rfl rfl (m_isHouse M _) ?_
  refine hz_eq rfl rfl (fun h5 => ?_) (fun h5 => ?_)
  · iterate 2 refine h_s rfl ?_
    refine hq_v rfl rfl rfl a54 rfl rfl (m_finds R0 0 (by omega) _ (by decide)) (fun v1 w1 q1 => ?_)
    obtain ⟨rfl, q2, q3⟩ := q1
    exact h_ri rfl rfl ⟨rfl, q2, q3⟩
  · refine h_s rfl ?_
    refine h_c rfl (m_isClock _) ?_
    refine hz_ne rfl rfl (fun h12 => ?_) (fun h12 => ?_)
    · exact absurd hb (by simp [h5, h12])
    · iterate 2 refine h_s rfl ?_
      refine hq_v rfl rfl rfl a54 rfl rfl (m_finds R0 0 (by omega) _ (by decide)) (fun v1 w1 q1 => ?_)
      obtain ⟨rfl, q2, q3⟩ := q1
      exact h_ri rfl rfl ⟨rfl, q2, q3⟩
set_option maxRecDepth 100000 in
set_option maxHeartbeats 4000000 in
theorem m_helps_b (R : MW w s n st ks kp tp tn bo so nu) (a b : Int32) (hb : (inN a n && inN b 24) = false)  : ab_Q X kX6_helps [.ref 54, .int a, .int b] w (MP w (-1000001) s n (bump st 0) ks kp tp tn bo so nu) := by
  have M := R.ms
  have R0 := R
  obtain ⟨oth, nz, mv, fr, to, vl, wr, a54, a55, a56, a57, a58, a59, a60, a61, a62, a63, a64, l, h0, hn, ht⟩ := R
  show ab_H X kX6_helps 0 [some (.ref 54), some (.int a), some (.int b), none, none] [] w _
  iterate 3 refine h_s rfl ?_
  refine h_cv rfl rfl rfl a54 rfl rfl (m_isAsk M _ _) ?_
  refine hz_ne rfl rfl (fun h6 => ?_) (fun h6 => ?_)
  · exact absurd hb (by simp [h6])
  · iterate 2 refine h_s rfl ?_
    refine hq_v rfl rfl rfl a54 rfl rfl (m_finds R0 0 (by omega) _ (by decide)) (fun v1 w1 q1 => ?_)
    obtain ⟨rfl, q2, q3⟩ := q1
    exact h_ri rfl rfl ⟨rfl, q2, q3⟩
set_option maxRecDepth 100000 in
set_option maxHeartbeats 4000000 in
theorem m_needs_b (R : MW w s n st ks kp tp tn bo so nu) (a b : Int32) (hb : (inN a n && inN b 24) = false)  : ab_Q X kX6_needs [.ref 54, .int a, .int b] w (MP w (-1000001) s n (bump st 0) ks kp tp tn bo so nu) := by
  have M := R.ms
  have R0 := R
  obtain ⟨oth, nz, mv, fr, to, vl, wr, a54, a55, a56, a57, a58, a59, a60, a61, a62, a63, a64, l, h0, hn, ht⟩ := R
  show ab_H X kX6_needs 0 [some (.ref 54), some (.int a), some (.int b), none] [] w _
  iterate 3 refine h_s rfl ?_
  refine h_cv rfl rfl rfl a54 rfl rfl (m_isAsk M _ _) ?_
  refine hz_ne rfl rfl (fun h6 => ?_) (fun h6 => ?_)
  · exact absurd hb (by simp [h6])
  · iterate 2 refine h_s rfl ?_
    refine hq_v rfl rfl rfl a54 rfl rfl (m_finds R0 0 (by omega) _ (by decide)) (fun v1 w1 q1 => ?_)
    obtain ⟨rfl, q2, q3⟩ := q1
    exact h_ri rfl rfl ⟨rfl, q2, q3⟩
set_option maxRecDepth 100000 in
set_option maxHeartbeats 4000000 in
theorem m_law_b (R : MW w s n st ks kp tp tn bo so nu) (a : Int32) (hb : (inN a 24) = false)  : ab_Q X kX6_law [.ref 54, .int a] w (MP w (-1000001) s n (bump st 0) ks kp tp tn bo so nu) := by
  have M := R.ms
  have R0 := R
  obtain ⟨oth, nz, mv, fr, to, vl, wr, a54, a55, a56, a57, a58, a59, a60, a61, a62, a63, a64, l, h0, hn, ht⟩ := R
  show ab_H X kX6_law 0 [some (.ref 54), some (.int a), none, none, none] [] w _
  refine h_s rfl ?_
  refine h_c rfl (m_isClock _) ?_
  refine hz_ne rfl rfl (fun h4 => ?_) (fun h4 => ?_)
  · exact absurd hb (by simp [h4])
  · iterate 2 refine h_s rfl ?_
    refine hq_v rfl rfl rfl a54 rfl rfl (m_finds R0 0 (by omega) _ (by decide)) (fun v1 w1 q1 => ?_)
    obtain ⟨rfl, q2, q3⟩ := q1
    exact h_ri rfl rfl ⟨rfl, q2, q3⟩
set_option maxRecDepth 100000 in
set_option maxHeartbeats 4000000 in
theorem m_quarrel_b (R : MW w s n st ks kp tp tn bo so nu) (a b c : Int32) (hb : (inN a n && inN b n && !decide (a = b) && inN c 24) = false)  : ab_Q X kX6_quarrel [.ref 54, .int a, .int b, .int c] w (MP w (-1000001) s n (bump st 0) ks kp tp tn bo so nu) := by
  have M := R.ms
  have R0 := R
  obtain ⟨oth, nz, mv, fr, to, vl, wr, a54, a55, a56, a57, a58, a59, a60, a61, a62, a63, a64, l, h0, hn, ht⟩ := R
  show ab_H X kX6_quarrel 0 [some (.ref 54), some (.int a), some (.int b), some (.int c), none, none] [] w _
  iterate 2 refine h_s rfl ?_
  refine h_cv rfl rfl rfl a54 rfl rfl (m_isHouse M _) ?_
  refine hz_eq rfl rfl (fun h5 => ?_) (fun h5 => ?_)
  · iterate 2 refine h_s rfl ?_
    refine hq_v rfl rfl rfl a54 rfl rfl (m_finds R0 0 (by omega) _ (by decide)) (fun v1 w1 q1 => ?_)
    obtain ⟨rfl, q2, q3⟩ := q1
    exact h_ri rfl rfl ⟨rfl, q2, q3⟩
  · iterate 2 refine h_s rfl ?_
    refine h_cv rfl rfl rfl a54 rfl rfl (m_isHouse M _) ?_
    refine hz_eq rfl rfl (fun h13 => ?_) (fun h13 => ?_)
    · iterate 2 refine h_s rfl ?_
      refine hq_v rfl rfl rfl a54 rfl rfl (m_finds R0 0 (by omega) _ (by decide)) (fun v1 w1 q1 => ?_)
      obtain ⟨rfl, q2, q3⟩ := q1
      exact h_ri rfl rfl ⟨rfl, q2, q3⟩
    · iterate 2 refine h_s rfl ?_
      refine h2_eq rfl rfl (fun h18 => ?_) (fun h18 => ?_)
      · iterate 2 refine h_s rfl ?_
        refine hq_v rfl rfl rfl a54 rfl rfl (m_finds R0 0 (by omega) _ (by decide)) (fun v1 w1 q1 => ?_)
        obtain ⟨rfl, q2, q3⟩ := q1
        exact h_ri rfl rfl ⟨rfl, q2, q3⟩
      · refine h_s rfl ?_
        refine h_c rfl (m_isClock _) ?_
        refine hz_ne rfl rfl (fun h25 => ?_) (fun h25 => ?_)
        · exact absurd hb (by simp [h5, h13, h18, h25])
        · iterate 2 refine h_s rfl ?_
          refine hq_v rfl rfl rfl a54 rfl rfl (m_finds R0 0 (by omega) _ (by decide)) (fun v1 w1 q1 => ?_)
          obtain ⟨rfl, q2, q3⟩ := q1
          exact h_ri rfl rfl ⟨rfl, q2, q3⟩
set_option maxRecDepth 100000 in
set_option maxHeartbeats 4000000 in
theorem m_share_b (R : MW w s n st ks kp tp tn bo so nu) (a b c d : Int32) (hb : (inN a n && (inN b n && inN c 24) && inN d 2) = false)  : ab_Q X kX6_share [.ref 54, .int a, .int b, .int c, .int d] w (MP w (-1000001) s n (bump st 0) ks kp tp tn bo so nu) := by
  have M := R.ms
  have R0 := R
  obtain ⟨oth, nz, mv, fr, to, vl, wr, a54, a55, a56, a57, a58, a59, a60, a61, a62, a63, a64, l, h0, hn, ht⟩ := R
  show ab_H X kX6_share 0 [some (.ref 54), some (.int a), some (.int b), some (.int c), some (.int d), none, none, none] [] w _
  iterate 2 refine h_s rfl ?_
  refine h_cv rfl rfl rfl a54 rfl rfl (m_isHouse M _) ?_
  refine hz_eq rfl rfl (fun h5 => ?_) (fun h5 => ?_)
  · iterate 2 refine h_s rfl ?_
    refine hq_v rfl rfl rfl a54 rfl rfl (m_finds R0 0 (by omega) _ (by decide)) (fun v1 w1 q1 => ?_)
    obtain ⟨rfl, q2, q3⟩ := q1
    exact h_ri rfl rfl ⟨rfl, q2, q3⟩
  · iterate 3 refine h_s rfl ?_
    refine h_cv rfl rfl rfl a54 rfl rfl (m_isAsk M _ _) ?_
    refine hz_eq rfl rfl (fun h14 => ?_) (fun h14 => ?_)
    · iterate 2 refine h_s rfl ?_
      refine hq_v rfl rfl rfl a54 rfl rfl (m_finds R0 0 (by omega) _ (by decide)) (fun v1 w1 q1 => ?_)
      obtain ⟨rfl, q2, q3⟩ := q1
      exact h_ri rfl rfl ⟨rfl, q2, q3⟩
    · iterate 4 refine h_s rfl ?_
      refine h_c rfl (m_inZ (m := 2) _ rfl rfl) ?_
      refine hz_ne rfl rfl (fun h25 => ?_) (fun h25 => ?_)
      · exact absurd hb (by simp [h5, h14, h25])
      · iterate 2 refine h_s rfl ?_
        refine hq_v rfl rfl rfl a54 rfl rfl (m_finds R0 0 (by omega) _ (by decide)) (fun v1 w1 q1 => ?_)
        obtain ⟨rfl, q2, q3⟩ := q1
        exact h_ri rfl rfl ⟨rfl, q2, q3⟩
end M8
