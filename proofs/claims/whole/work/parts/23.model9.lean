/-! THE REFERENCE: calls that only tell, 2 -/
/-- the last of the first m for which p fails, in a row from m - 1 down; -1 if none -/
def lastI (p : Nat → Bool) : Nat → Int32
  | 0 => -1
  | m + 1 => if p m then lastI p m else nI m
/-- the first c with the least positive g, of the first m: where, how much -/
def bestI (g : Nat → Nat) : Nat → Int32 × Nat
  | 0 => (-1, 0)
  | m + 1 => if 0 < g m ∧ ((bestI g m).1 < 0 ∨ g m < (bestI g m).2) then (nI m, g m) else bestI g m
section M9
variable {X : List Int32} {w : ab_W} {s : List Int32} {n : Nat} {st ks : List Int32} {kp : Bool} {tp : List Int32} {tn : Nat} {bo so nu : List Int32}
set_option maxRecDepth 100000 in
set_option maxHeartbeats 4000000 in
theorem m_of_k (R : MW w s n st ks kp tp tn bo so nu) (h k : Nat) (hh : h < n) (hk : k < 8) : ab_Q X kX6_of [.ref 54, .int (nI h), .int (nI k)] w (MP w (fld s h k) s n st ks kp tp tn bo so nu) := by
  have M := R.ms
  have R0 := R
  obtain ⟨oth, nz, mv, fr, to, vl, wr, a54, a55, a56, a57, a58, a59, a60, a61, a62, a63, a64, l, h0, hn, ht⟩ := R
  show ab_H X kX6_of 0 [some (.ref 54), some (.int (nI h)), some (.int (nI k))] [] w _
  iterate 2 refine h_s rfl ?_
  refine h_cv rfl rfl rfl a54 rfl rfl (m_isHouse1 M ⟨h, by omega, rfl⟩) ?_
  iterate 5 refine h_s rfl ?_
  refine h_c rfl (m_in1 (lo := 0) (hi := 7) rfl rfl (by rw [nI_toInt (by omega)]; omega)) ?_
  iterate 4 refine h_s rfl ?_
  refine h_cv rfl rfl rfl a54 rfl rfl (m_its M h k (by omega) hk rfl rfl) ?_
  refine h_s rfl ?_
  exact h_ri rfl rfl (MP.same R0 _)
set_option maxRecDepth 100000 in
set_option maxHeartbeats 4000000 in
theorem m_lets_k (R : MW w s n st ks kp tp tn bo so nu) (I : SI s n) (h f c : Nat) (hh : h < n) (hf : f < n) (hc : c < 24) : ab_Q X kX6_lets [.ref 54, .int (nI h), .int (nI f), .int (nI c)] w (MP w (z01 (letB s h f (nI c))) s n st ks kp tp tn bo so nu) := by
  have M := R.ms
  have R0 := R
  obtain ⟨oth, nz, mv, fr, to, vl, wr, a54, a55, a56, a57, a58, a59, a60, a61, a62, a63, a64, l, h0, hn, ht⟩ := R
  show ab_H X kX6_lets 0 [some (.ref 54), some (.int (nI h)), some (.int (nI f)), some (.int (nI c))] [] w _
  iterate 2 refine h_s rfl ?_
  refine h_cv rfl rfl rfl a54 rfl rfl (m_isHouse1 M ⟨h, by omega, rfl⟩) ?_
  iterate 4 refine h_s rfl ?_
  refine h_cv rfl rfl rfl a54 rfl rfl (m_isAsk1 M ⟨f, by omega, rfl⟩ ⟨c, by omega, rfl⟩) ?_
  iterate 5 refine h_s rfl ?_
  refine h_cv rfl rfl rfl a54 rfl rfl (m_isLetting M I h f hh (by omega) (nI c)) ?_
  refine hz_eq rfl rfl (fun h31 => ?_) (fun h31 => ?_)
  · refine h_k (y := 0) rfl rfl ?_
    exact h_ri rfl (by rw [h31]; rfl) (MP.same R0 _)
  · refine h_k (y := 1) rfl rfl ?_
    refine h_s rfl ?_
    exact h_ri rfl (by rw [h31]; rfl) (MP.same R0 _)
set_option maxRecDepth 100000 in
set_option maxHeartbeats 4000000 in
theorem m_letting_k (R : MW w s n st ks kp tp tn bo so nu) (I : SI s n) (f c : Nat) (hf : f < n) (hc : c < 24) : ab_Q X kX6_letting [.ref 54, .int (nI f), .int (nI c)] w (MP w (bs (fun h => letB s h f (nI c)) n) s n st ks kp tp tn bo so nu) := by
  have M := R.ms
  have R0 := R
  obtain ⟨oth, nz, mv, fr, to, vl, wr, a54, a55, a56, a57, a58, a59, a60, a61, a62, a63, a64, l, h0, hn, ht⟩ := R
  show ab_H X kX6_letting 0 [some (.ref 54), some (.int (nI f)), some (.int (nI c))] [] w _
  iterate 3 refine h_s rfl ?_
  refine h_cv rfl rfl rfl a54 rfl rfl (m_isAsk1 M ⟨f, by omega, rfl⟩ ⟨c, by omega, rfl⟩) ?_
  iterate 4 refine h_s rfl ?_
  refine h_cv rfl rfl rfl a54 rfl rfl (m_lettingSet M I f (by omega) (nI c)) ?_
  refine h_s rfl ?_
  exact h_ri rfl rfl (MP.same R0 _)
set_option maxRecDepth 100000 in
set_option maxHeartbeats 4000000 in
theorem m_joined_k (R : MW w s n st ks kp tp tn bo so nu) (I : SI s n) (r : Nat) (hr : r < 2 * n) : ab_Q X kX6_joined [.ref 54, .int (nI r)] w (MP w (bs (adjB s n r) 16) s n st ks kp tp tn bo so nu) := by
  have M := R.ms
  have R0 := R
  obtain ⟨oth, nz, mv, fr, to, vl, wr, a54, a55, a56, a57, a58, a59, a60, a61, a62, a63, a64, l, h0, hn, ht⟩ := R
  show ab_H X kX6_joined 0 [some (.ref 54), some (.int (nI r))] [] w _
  iterate 2 refine h_s rfl ?_
  refine h_cv rfl rfl rfl a54 rfl rfl (m_isRoom1 M ⟨r, by omega, rfl⟩) ?_
  iterate 3 refine h_s rfl ?_
  refine h_cv rfl rfl rfl a54 rfl rfl (m_joinedTo M I r hr) ?_
  refine h_s rfl ?_
  exact h_ri rfl rfl (MP.same R0 _)
set_option maxRecDepth 100000 in
set_option maxHeartbeats 4000000 in
theorem m_reach_k (R : MW w s n st ks kp tp tn bo so nu) (I : SI s n) (f c : Nat) (hf : f < n) (hc : c < 24) : ab_Q X kX6_reach [.ref 54, .int (nI f), .int (nI c)] w (MP w (bs (wB (adjB s n) (opB s n f (nI c)) (gB n) 16) 16) s n st ks kp tp tn bo so nu) := by
  have M := R.ms
  have R0 := R
  obtain ⟨oth, nz, mv, fr, to, vl, wr, a54, a55, a56, a57, a58, a59, a60, a61, a62, a63, a64, l, h0, hn, ht⟩ := R
  show ab_H X kX6_reach 0 [some (.ref 54), some (.int (nI f)), some (.int (nI c))] [] w _
  iterate 3 refine h_s rfl ?_
  refine h_cv rfl rfl rfl a54 rfl rfl (m_isAsk1 M ⟨f, by omega, rfl⟩ ⟨c, by omega, rfl⟩) ?_
  iterate 4 refine h_s rfl ?_
  refine h_cv rfl rfl rfl a54 rfl rfl (m_reached M I f hf (nI c)) ?_
  refine h_s rfl ?_
  exact h_ri rfl rfl (MP.same R0 _)
set_option maxRecDepth 100000 in
set_option maxHeartbeats 4000000 in
theorem m_off_k (R : MW w s n st ks kp tp tn bo so nu) (I : SI s n) (c : Nat) (hc : c < 24) : ab_Q X kX6_off [.ref 54, .int (nI c)] w (MP w (bs (fun f => offB s n f (nI c)) n) s n st ks kp tp tn bo so nu) := by
  have M := R.ms
  have R0 := R
  obtain ⟨oth, nz, mv, fr, to, vl, wr, a54, a55, a56, a57, a58, a59, a60, a61, a62, a63, a64, l, h0, hn, ht⟩ := R
  show ab_H X kX6_off 0 [some (.ref 54), some (.int (nI c))] [] w _
  refine h_s rfl ?_
  refine h_c rfl (m_isClock1 ⟨c, by omega, rfl⟩) ?_
  iterate 3 refine h_s rfl ?_
  refine h_cv rfl rfl rfl a54 rfl rfl (m_offSet M I (nI c)) ?_
  refine h_s rfl ?_
  exact h_ri rfl rfl (MP.same R0 _)
set_option maxRecDepth 100000 in
set_option maxHeartbeats 4000000 in
theorem m_hours_k (R : MW w s n st ks kp tp tn bo so nu) (I : SI s n) (f : Nat) (hf : f < n) : ab_Q X kX6_hours [.ref 54, .int (nI f)] w (MP w (bs (fun c => offB s n f (nI c)) 24) s n st ks kp tp tn bo so nu) := by
  have M := R.ms
  have R0 := R
  obtain ⟨oth, nz, mv, fr, to, vl, wr, a54, a55, a56, a57, a58, a59, a60, a61, a62, a63, a64, l, h0, hn, ht⟩ := R
  show ab_H X kX6_hours 0 [some (.ref 54), some (.int (nI f))] [] w _
  iterate 2 refine h_s rfl ?_
  refine h_cv rfl rfl rfl a54 rfl rfl (m_isHouse1 M ⟨f, by omega, rfl⟩) ?_
  iterate 3 refine h_s rfl ?_
  refine h_cv rfl rfl rfl a54 rfl rfl (m_offHours M I f hf) ?_
  refine h_s rfl ?_
  exact h_ri rfl rfl (MP.same R0 _)
set_option maxRecDepth 100000 in
set_option maxHeartbeats 4000000 in
theorem m_way_k (R : MW w s n st ks kp tp tn bo so nu) (I : SI s n) (f r c : Nat) (hf : f < n) (hr : r < 2 * n) (hc : c < 24) (L : Nat) (hL : wayL (adjB s n) (opB s n f (nI c)) (gB n) r = L) : ab_Q X kX6_way [.ref 54, .int (nI f), .int (nI r), .int (nI c)] w (fun v w1 => if L = 0 then MP w (-1000004) s n (bump st 3) ks kp tp tn bo so nu v w1 else MP w (nI L) s n st ks kp tp tn bo so nu v w1) := by
  have M := R.ms
  have R0 := R
  obtain ⟨oth, nz, mv, fr, to, vl, wr, a54, a55, a56, a57, a58, a59, a60, a61, a62, a63, a64, l, h0, hn, ht⟩ := R
  show ab_H X kX6_way 0 [some (.ref 54), some (.int (nI f)), some (.int (nI r)), some (.int (nI c)), none] [] w _
  have hw : L ≤ 16 := by rw [← hL]; exact wayL_le _
  iterate 3 refine h_s rfl ?_
  refine h_cv rfl rfl rfl a54 rfl rfl (m_isAsk1 M ⟨f, by omega, rfl⟩ ⟨c, by omega, rfl⟩) ?_
  iterate 3 refine h_s rfl ?_
  refine h_cv rfl rfl rfl a54 rfl rfl (m_isRoom1 M ⟨r, by omega, rfl⟩) ?_
  iterate 3 refine h_s rfl ?_
  refine h_cv rfl rfl rfl a54 rfl rfl (m_grounds M) ?_
  iterate 4 refine h_s rfl ?_
  refine h_cv rfl rfl rfl a54 rfl rfl (m_openRooms M I f (by omega) (nI c)) ?_
  refine h_cv rfl rfl rfl a54 rfl rfl (m_lengthOf M I (gB n) (opB s n f (nI c)) (fun r _ h => opB_lt h) r (by omega)) ?_
  refine h_t (congrArg nI hL) ?_
  iterate 2 refine h_s rfl ?_
  refine h1_ne rfl rfl (fun h43 => ?_) (fun h43 => ?_)
  · refine h_s rfl ?_
    rw [show (0 : Int32) = nI 0 from rfl, nI_eq (by omega) (by omega)] at h43
    exact h_ri rfl rfl (by rw [if_neg h43]; exact MP.same R0 _)
  · iterate 2 refine h_s rfl ?_
    refine hq_v rfl rfl rfl a54 rfl rfl (m_finds R0 3 (by omega) _ (by decide)) (fun v1 w1 q1 => ?_)
    obtain ⟨rfl, q2, q3⟩ := q1
    refine h_s rfl ?_
    rw [show (0 : Int32) = nI 0 from rfl, nI_eq (by omega) (by omega)] at h43
    exact h_ri rfl rfl (by rw [if_pos h43]; exact ⟨rfl, q2, q3⟩)
set_option maxRecDepth 100000 in
set_option maxHeartbeats 4000000 in
theorem m_latest_k (R : MW w s n st ks kp tp tn bo so nu) (I : SI s n) (f : Nat) (hf : f < n) : ab_Q X kX6_latest [.ref 54, .int (nI f)] w (fun v w1 => if lastI (fun c => offB s n f (nI c)) 24 < 0 then MP w (-1000004) s n (bump st 3) ks kp tp tn bo so nu v w1 else MP w (lastI (fun c => offB s n f (nI c)) 24) s n st ks kp tp tn bo so nu v w1) := by
  have M := R.ms
  have R0 := R
  obtain ⟨oth, nz, mv, fr, to, vl, wr, a54, a55, a56, a57, a58, a59, a60, a61, a62, a63, a64, l, h0, hn, ht⟩ := R
  show ab_H X kX6_latest 0 [some (.ref 54), some (.int (nI f)), none, none] [] w _
  generalize hL0 : lastI (fun c => offB s n f (nI c)) 24 = L
  iterate 2 refine h_s rfl ?_
  refine h_cv rfl rfl rfl a54 rfl rfl (m_isHouse1 M ⟨f, by omega, rfl⟩) ?_
  iterate 3 refine h_s rfl ?_
  refine h_cv rfl rfl rfl a54 rfl rfl (m_offHours M I f hf) ?_
  refine h_s rfl ?_
  refine h_k (y := 23) rfl rfl ?_
  refine h_s rfl ?_
  refine h_loop0 25 (fun i ls w1 => w1 = w ∧ i < 25 ∧ ls = [some (.ref 54), some (.int (nI f)), some (.int (bs (fun c => offB s n f (nI c)) 24)), some (.int (if i = 24 then -1 else nI (23 - i)))] ∧ L = lastI (fun c => offB s n f (nI c)) (24 - i)) ⟨rfl, by omega, rfl, hL0.symm⟩ (fun i ls w1 hi hJ ih => ?_) (fun ls w1 hJ => absurd hJ.2.1 (by omega))
  obtain ⟨rfl, hi', rfl, hL⟩ := hJ
  by_cases h24 : i = 24
  · rw [if_pos h24]
    rw [h24] at hL
    iterate 6 refine h_s rfl ?_
    refine hq_v rfl rfl rfl a54 rfl rfl (m_finds R0 3 (by omega) _ (by decide)) (fun v1 w1 q1 => ?_)
    obtain ⟨rfl, q2, q3⟩ := q1
    refine h_s rfl ?_
    exact h_ri rfl rfl (by rw [show L = -1 from hL, if_pos (by decide)]; exact ⟨rfl, q2, q3⟩)
  · rw [if_neg h24]
    rw [show 24 - i = (23 - i) + 1 by omega, lastI] at hL
    have hb : bt (bs (fun c => offB s n f (nI c)) 24) (23 - i) = offB s n f (nI (23 - i)) := by rw [bt_bs _ _ _ (by omega) (by omega), decide_eq_true (by omega), Bool.true_and]
    refine h_s rfl ?_
    refine h1_lt rfl rfl (fun h25 => absurd h25 (nI_pos (by omega))) (fun h25 => ?_)
    iterate 2 refine h_s rfl ?_
    refine h_c rfl (m_has (23 - i) (by omega)) ?_
    refine hz_eq rfl rfl (fun h33 => ?_) (fun h33 => ?_)
    · refine h_s rfl ?_
      refine h1_ge rfl rfl (fun h43 => ?_) (fun h43 => ?_)
      · refine h_s rfl ?_
        rw [hb] at h33
        rw [if_neg (by rw [h33]; decide)] at hL
        first | exact absurd (nI_pos' (by omega)) h43 | exact h_ri rfl rfl (by rw [hL, if_neg (nI_pos (by omega))]; exact MP.same R0 _)
      · iterate 2 refine h_s rfl ?_
        refine hq_v rfl rfl rfl a54 rfl rfl (m_finds R0 3 (by omega) _ (by decide)) (fun v1 w1 q1 => ?_)
        obtain ⟨rfl, q2, q3⟩ := q1
        refine h_s rfl ?_
        rw [hb] at h33
        rw [if_neg (by rw [h33]; decide)] at hL
        first | exact absurd (nI_pos' (by omega)) h43 | exact h_ri rfl rfl (by rw [hL, if_neg (nI_pos (by omega))]; exact MP.same R0 _)
    · iterate 2 refine h_s rfl ?_
      rw [hb] at h33
      rw [if_pos h33] at hL
      refine ih _ _ ⟨rfl, by omega, ?_, hL.trans (congrArg (lastI (fun c => offB s n f (nI c))) (by omega))⟩
      by_cases h23 : i + 1 = 24
      · rw [if_pos h23, show 23 - i = 0 by omega]; rfl
      · rw [if_neg h23, show 23 - i = (23 - (i + 1)) + 1 by omega, show (nI (23 - (i + 1) + 1)) = nI (23 - (i + 1)) + 1 from nI_succ _]
        show ([some (.ref 54), some (.int (nI f)), some (.int (bs (fun c => offB s n f (nI c)) 24)), some (.int (nI (23 - (i + 1)) + 1 + -1))] : List (Option Value)) = _
        rw [show nI (23 - (i + 1)) + 1 + -1 = nI (23 - (i + 1)) by rw [← nI_succ]; exact pk_m1 _]
end M9
