/-! THE REFERENCE: calls that change the row -/
def partB (n : Nat) (b c : Int32) : Bool := if b = 0 then inN c 7 else if b = 3 ∨ b = 4 then inN c 24 else if b = 6 then inN c 10 else decide (b = 7) && inN c n
/-- a row with one house more -/
def newS (s : List Int32) (n : Nat) (k : Int32) : List Int32 := ((((((((s.set (2 + 8 * n + 0) k).set (2 + 8 * n + 1) (-1)).set (2 + 8 * n + 2) 0).set (2 + 8 * n + 3) 6).set (2 + 8 * n + 4) 22).set (2 + 8 * n + 5) 0).set (2 + 8 * n + 6) 2).set (2 + 8 * n + 7) (nI n)).set 0 (nI (n + 1))
theorem sw_out {x : Int32} {m : Nat} {hi : Int} (hh : hi = (m : Int) - 1) (h : inN x m = false) : (decide (x.toInt < 0) || decide (hi < x.toInt)) = true := by
  unfold inN at h
  rw [decide_eq_false_iff_not] at h
  simp only [Bool.or_eq_true, decide_eq_true_eq]
  omega
theorem gD_ne {s : List Int32} {i j : Nat} {x : Int32} (h : i ≠ j) : (s.set i x).getD j 0 = s.getD j 0 := by
  rw [List.getD_eq_getElem?_getD, List.getD_eq_getElem?_getD, List.getElem?_set_ne h]
theorem gD_eq {s : List Int32} {i : Nat} {x : Int32} (h : i < s.length) : (s.set i x).getD i 0 = x := by
  rw [List.getD_eq_getElem?_getD, List.getElem?_set_self h]
  rfl
theorem gD_set (s : List Int32) (i j : Nat) (x : Int32) (h : i < s.length) : (s.set i x).getD j 0 = if j = i then x else s.getD j 0 := by
  by_cases e : j = i
  · subst e
    rw [if_pos rfl, gD_eq h]
  · rw [if_neg e, gD_ne (fun q => e q.symm)]
theorem fld_set (s : List Int32) {h k h' k' : Nat} (x : Int32) (hl : s.length = 90) (hh : h < 8) (hk : k < 8) (hk' : k' < 8) : fld (s.set (2 + 8 * h + k) x) h' k' = if h' = h ∧ k' = k then x else fld s h' k' := by
  unfold fld
  rw [gD_set s _ _ x (by omega)]
  by_cases e : h' = h ∧ k' = k
  · rw [if_pos e, if_pos (by omega)]
  · rw [if_neg e, if_neg (by omega)]
section MA
variable {X : List Int32} {w : ab_W} {s : List Int32} {n : Nat} {st ks : List Int32} {kp : Bool} {tp : List Int32} {tn : Nat} {bo so nu : List Int32}
theorem MW.sj (R : MW w s n st ks kp tp tn bo so nu) {w1 : ab_W} {j : Nat} {x : Int32} (h : w1[55]? = some (.inr (s.set j x))) (hj : j ≠ 0) (hf : ∀ i, i ≠ 55 → w1[i]? = w[i]?) : MW w1 (s.set j x) n st ks kp tp tn bo so nu := by
  have R1 := R
  obtain ⟨oth, nz, mv, fr, to, vl, wr, a54, a55, a56, a57, a58, a59, a60, a61, a62, a63, a64, l, h0, hn, ht⟩ := R
  exact R1.s55 h ((List.length_set ..).trans l.1) ((gD_ne hj).trans h0) hn hf
set_option maxRecDepth 100000 in
set_option maxHeartbeats 4000000 in
theorem m_isPart (M : MS w s n) (b c : Int32) : ab_M X kX6_isPart [.ref 54, .int b, .int c] w (some (.int (z01 (partB n b c)))) w := by
  obtain ⟨vs, hm, -⟩ := id M
  show ab_G X kX6_isPart 0 [some (.ref 54), some (.int b), some (.int c)] [] w _ _
  refine ab_s rfl ?_
  cases hb : inN b 7 with
  | true =>
    obtain ⟨j, hj, rfl⟩ := inN_t (by omega) hb
    match j, hj with
    | 0, _ =>
      refine ab_sw rfl (by decide) rfl rfl ?_
      iterate 4 refine ab_s rfl ?_
      refine ab_c rfl (m_inZ (m := 7) _ rfl rfl) ?_
      exact ab_rz rfl rfl rfl
    | 1, _ =>
      refine ab_sw rfl (by decide) rfl rfl ?_
      refine ab_s rfl ?_
      refine ab_k (y := 7) rfl rfl ?_
      refine ab_s rfl ?_
      refine ab_k (y := 0) rfl rfl ?_
      exact ab_ri rfl rfl
    | 2, _ =>
      refine ab_sw rfl (by decide) rfl rfl ?_
      refine ab_s rfl ?_
      refine ab_k (y := 7) rfl rfl ?_
      refine ab_s rfl ?_
      refine ab_k (y := 0) rfl rfl ?_
      exact ab_ri rfl rfl
    | 3, _ =>
      refine ab_sw rfl (by decide) rfl rfl ?_
      refine ab_s rfl ?_
      refine ab_c rfl (m_isClock _) ?_
      exact ab_rz rfl rfl rfl
    | 4, _ =>
      refine ab_sw rfl (by decide) rfl rfl ?_
      refine ab_s rfl ?_
      refine ab_c rfl (m_isClock _) ?_
      exact ab_rz rfl rfl rfl
    | 5, _ =>
      refine ab_sw rfl (by decide) rfl rfl ?_
      refine ab_s rfl ?_
      refine ab_k (y := 7) rfl rfl ?_
      refine ab_s rfl ?_
      refine ab_k (y := 0) rfl rfl ?_
      exact ab_ri rfl rfl
    | 6, _ =>
      refine ab_sw rfl (by decide) rfl rfl ?_
      iterate 4 refine ab_s rfl ?_
      refine ab_c rfl (m_inZ (m := 10) _ rfl rfl) ?_
      exact ab_rz rfl rfl rfl
  | false =>
    refine ab_swd rfl (sw_out rfl hb) rfl ?_
    have e : partB n b c = (decide (b = 7) && inN c n) := by
      have hk : ∀ j, j < 7 → ¬ b = nI j := fun j hj q => inN_f (by omega) hb ⟨j, hj, q⟩
      unfold partB
      rw [if_neg (show ¬ b = 0 from hk 0 (by omega)), if_neg (show ¬ (b = 3 ∨ b = 4) from fun q => q.elim (hk 3 (by omega)) (hk 4 (by omega))), if_neg (show ¬ b = 6 from hk 6 (by omega))]
    rw [e]
    refine ab_s rfl ?_
    refine ab_k (y := 7) rfl rfl ?_
    refine j2_ne rfl rfl (fun h72 => ?_) (fun h72 => ?_)
    · refine ab_k (y := 0) rfl rfl ?_
      exact ab_ri rfl (by first | (rw [decide_eq_false h72]; rfl) | (rw [decide_eq_true h72, h80]; rfl))
    · iterate 2 refine ab_s rfl ?_
      refine ab_cv rfl rfl rfl hm rfl rfl (m_isHouse M _) ?_
      refine z1_eq rfl rfl (fun h80 => ?_) (fun h80 => ?_)
      · refine ab_k (y := 0) rfl rfl ?_
        exact ab_ri rfl (by first | (rw [decide_eq_false h72]; rfl) | (rw [decide_eq_true h72, h80]; rfl))
      · refine ab_k (y := 1) rfl rfl ?_
        refine ab_s rfl ?_
        exact ab_ri rfl (by first | (rw [decide_eq_false h72]; rfl) | (rw [decide_eq_true h72, h80]; rfl))
set_option maxRecDepth 100000 in
set_option maxHeartbeats 4000000 in
theorem m_change_b (R : MW w s n st ks kp tp tn bo so nu) (a b c : Int32) (hb : (inN a n && partB n b c) = false)  : ab_Q X kX6_change [.ref 54, .int a, .int b, .int c] w (MP w (-1000001) s n (bump st 0) ks kp tp tn bo so nu) := by
  have M := R.ms
  have R0 := R
  obtain ⟨oth, nz, mv, fr, to, vl, wr, a54, a55, a56, a57, a58, a59, a60, a61, a62, a63, a64, l, h0, hn, ht⟩ := R
  show ab_H X kX6_change 0 [some (.ref 54), some (.int a), some (.int b), some (.int c), none] [] w _
  iterate 2 refine h_s rfl ?_
  refine h_cv rfl rfl rfl a54 rfl rfl (m_isHouse M _) ?_
  refine hz_eq rfl rfl (fun h5 => ?_) (fun h5 => ?_)
  · iterate 2 refine h_s rfl ?_
    refine hq_v rfl rfl rfl a54 rfl rfl (m_finds R0 0 (by omega) _ (by decide)) (fun v1 w1 q1 => ?_)
    obtain ⟨rfl, q2, q3⟩ := q1
    exact h_ri rfl rfl ⟨rfl, q2, q3⟩
  · iterate 3 refine h_s rfl ?_
    refine h_cv rfl rfl rfl a54 rfl rfl (m_isPart M _ _) ?_
    refine hz_ne rfl rfl (fun h14 => ?_) (fun h14 => ?_)
    · exact absurd hb (by simp [h5, h14])
    · iterate 2 refine h_s rfl ?_
      refine hq_v rfl rfl rfl a54 rfl rfl (m_finds R0 0 (by omega) _ (by decide)) (fun v1 w1 q1 => ?_)
      obtain ⟨rfl, q2, q3⟩ := q1
      exact h_ri rfl rfl ⟨rfl, q2, q3⟩
set_option maxRecDepth 100000 in
set_option maxHeartbeats 4000000 in
theorem m_change_k (R : MW w s n st ks kp tp tn bo so nu) (h k : Nat) (c : Int32) (hh : h < n) (hk : k < 8) (hc : partB n (nI k) c = true) : ab_Q X kX6_change [.ref 54, .int (nI h), .int (nI k), .int c] w (MP w (fld s h k) (s.set (2 + 8 * h + k) c) n st ks kp tp tn bo so nu) := by
  have M := R.ms
  have R0 := R
  obtain ⟨oth, nz, mv, fr, to, vl, wr, a54, a55, a56, a57, a58, a59, a60, a61, a62, a63, a64, l, h0, hn, ht⟩ := R
  show ab_H X kX6_change 0 [some (.ref 54), some (.int (nI h)), some (.int (nI k)), some (.int c), none] [] w _
  iterate 2 refine h_s rfl ?_
  refine h_cv rfl rfl rfl a54 rfl rfl (m_isHouse1 M ⟨h, by omega, rfl⟩) ?_
  iterate 4 refine h_s rfl ?_
  refine h_cv rfl rfl rfl a54 rfl rfl (m_isPart M _ _) ?_
  refine h_t (show z01 (partB n (nI k) c) = 1 by rw [hc]; rfl) ?_
  iterate 4 refine h_s rfl ?_
  refine h_cv rfl rfl rfl a54 rfl rfl (m_its M h k (by omega) hk rfl rfl) ?_
  iterate 2 refine h_s rfl ?_
  refine h_gf rfl rfl rfl a54 rfl ?_
  iterate 2 refine h_s rfl ?_
  refine h_c rfl (m_at h k rfl rfl) ?_
  refine h_s rfl ?_
  refine h_is (2 + 8 * h + k) rfl a55 (by omega) rfl (by omega) (fun w1 e1 f1 => ?_)
  refine h_s rfl ?_
  exact h_ri rfl rfl ⟨rfl, R0.sj e1 (by omega) f1, fun i hi => f1 i (by omega)⟩
set_option maxRecDepth 100000 in
set_option maxHeartbeats 4000000 in
theorem m_seed_k (R : MW w s n st ks kp tp tn bo so nu) (v : Int32) : ab_Q X kX6_seed [.ref 54, .int v] w (MP w (s.getD 1 0) (s.set 1 v) n st ks kp tp tn bo so nu) := by
  have M := R.ms
  have R0 := R
  obtain ⟨oth, nz, mv, fr, to, vl, wr, a54, a55, a56, a57, a58, a59, a60, a61, a62, a63, a64, l, h0, hn, ht⟩ := R
  show ab_H X kX6_seed 0 [some (.ref 54), some (.int v), none] [] w _
  refine h_s rfl ?_
  refine h_gf rfl rfl rfl a54 rfl ?_
  refine h_k (y := 1) rfl rfl ?_
  refine h_ia 1 rfl a55 (by omega) rfl (by omega) ?_
  iterate 2 refine h_s rfl ?_
  refine h_gf rfl rfl rfl a54 rfl ?_
  refine h_k (y := 1) rfl rfl ?_
  refine h_s rfl ?_
  refine h_is (1) rfl a55 (by omega) rfl (by omega) (fun w1 e1 f1 => ?_)
  refine h_s rfl ?_
  exact h_ri rfl rfl ⟨rfl, R0.sj e1 (by omega) f1, fun i hi => f1 i (by omega)⟩
set_option maxRecDepth 100000 in
set_option maxHeartbeats 4000000 in
theorem m_door_k (R : MW w s n st ks kp tp tn bo so nu) (d : Nat) (z : Bool) (hd : d < 14) : ab_Q X kX6_door [.ref 54, .int (nI d), .int (z01 z)] w (MP w (s.getD (66 + d) 0) (s.set (66 + d) (z01 z)) n st ks kp tp tn bo so nu) := by
  have M := R.ms
  have R0 := R
  obtain ⟨oth, nz, mv, fr, to, vl, wr, a54, a55, a56, a57, a58, a59, a60, a61, a62, a63, a64, l, h0, hn, ht⟩ := R
  show ab_H X kX6_door 0 [some (.ref 54), some (.int (nI d)), some (.int (z01 z)), none] [] w _
  iterate 4 refine h_s rfl ?_
  refine h_c rfl (m_in1 (lo := 0) (hi := 13) rfl rfl (by rw [nI_toInt (by omega)]; omega)) ?_
  iterate 2 refine h_s rfl ?_
  refine h_gf rfl rfl rfl a54 rfl ?_
  refine h_k (y := 66) rfl rfl ?_
  iterate 2 refine h_s rfl ?_
  refine h_ia (66 + d) rfl a55 (by omega) (nI_add 66 d) (by omega) ?_
  iterate 2 refine h_s rfl ?_
  refine h_gf rfl rfl rfl a54 rfl ?_
  refine h_k (y := 66) rfl rfl ?_
  iterate 3 refine h_s rfl ?_
  refine hz_eq rfl rfl (fun h38 => ?_) (fun h38 => ?_)
  · refine h_k (y := 0) rfl rfl ?_
    refine h_is (66 + d) rfl a55 (by omega) (nI_add 66 d) (by omega) (fun w1 e1 f1 => ?_)
    refine h_s rfl ?_
    first | exact h_ri rfl rfl ⟨rfl, by rw [h38]; exact R0.sj e1 (by omega) f1, fun i hi => f1 i (by omega)⟩
  · refine h_k (y := 1) rfl rfl ?_
    refine h_s rfl ?_
    refine h_is (66 + d) rfl a55 (by omega) (nI_add 66 d) (by omega) (fun w1 e1 f1 => ?_)
    refine h_s rfl ?_
    first | exact h_ri rfl rfl ⟨rfl, by rw [h38]; exact R0.sj e1 (by omega) f1, fun i hi => f1 i (by omega)⟩
set_option maxRecDepth 100000 in
set_option maxHeartbeats 4000000 in
theorem m_hold_k (R : MW w s n st ks kp tp tn bo so nu) (k : Nat) (a : Int32) (hk : k < 10) (ha : a = -1 ∨ isN a n) : ab_Q X kX6_hold [.ref 54, .int (nI k), .int a] w (MP w 1 (s.set (80 + k) a) n st ks kp tp tn bo so nu) := by
  have M := R.ms
  have R0 := R
  obtain ⟨oth, nz, mv, fr, to, vl, wr, a54, a55, a56, a57, a58, a59, a60, a61, a62, a63, a64, l, h0, hn, ht⟩ := R
  show ab_H X kX6_hold 0 [some (.ref 54), some (.int (nI k)), some (.int a)] [] w _
  iterate 4 refine h_s rfl ?_
  refine h_c rfl (m_in1 (lo := 0) (hi := 9) rfl rfl (by rw [nI_toInt (by omega)]; omega)) ?_
  iterate 2 refine h_s rfl ?_
  refine h_k (y := (-1)) rfl rfl ?_
  refine h2_eq rfl rfl (fun h14 => ?_) (fun h14 => ?_)
  · refine h_s rfl ?_
    refine h_gf rfl rfl rfl a54 rfl ?_
    refine h_k (y := 80) rfl rfl ?_
    iterate 3 refine h_s rfl ?_
    refine h_is (80 + k) rfl a55 (by omega) (nI_add 80 k) (by omega) (fun w1 e1 f1 => ?_)
    refine h_k (y := 1) rfl rfl ?_
    exact h_ri rfl rfl ⟨rfl, R0.sj e1 (by omega) f1, fun i hi => f1 i (by omega)⟩
  · iterate 2 refine h_s rfl ?_
    refine h_cv rfl rfl rfl a54 rfl rfl (m_isHouse1 M (ha.resolve_left h14)) ?_
    iterate 2 refine h_s rfl ?_
    refine h_gf rfl rfl rfl a54 rfl ?_
    refine h_k (y := 80) rfl rfl ?_
    iterate 3 refine h_s rfl ?_
    refine h_is (80 + k) rfl a55 (by omega) (nI_add 80 k) (by omega) (fun w1 e1 f1 => ?_)
    refine h_k (y := 1) rfl rfl ?_
    exact h_ri rfl rfl ⟨rfl, R0.sj e1 (by omega) f1, fun i hi => f1 i (by omega)⟩
set_option maxRecDepth 100000 in
set_option maxHeartbeats 4000000 in
theorem m_hold_b (R : MW w s n st ks kp tp tn bo so nu) (a b : Int32) (hb : (inN a 10 && (decide (b = -1) || inN b n)) = false)  : ab_Q X kX6_hold [.ref 54, .int a, .int b] w (MP w (-1000001) s n (bump st 0) ks kp tp tn bo so nu) := by
  have M := R.ms
  have R0 := R
  obtain ⟨oth, nz, mv, fr, to, vl, wr, a54, a55, a56, a57, a58, a59, a60, a61, a62, a63, a64, l, h0, hn, ht⟩ := R
  show ab_H X kX6_hold 0 [some (.ref 54), some (.int a), some (.int b)] [] w _
  iterate 4 refine h_s rfl ?_
  refine h_c rfl (m_inZ (m := 10) _ rfl rfl) ?_
  refine hz_eq rfl rfl (fun h9 => ?_) (fun h9 => ?_)
  · iterate 2 refine h_s rfl ?_
    refine hq_v rfl rfl rfl a54 rfl rfl (m_finds R0 0 (by omega) _ (by decide)) (fun v1 w1 q1 => ?_)
    obtain ⟨rfl, q2, q3⟩ := q1
    exact h_ri rfl rfl ⟨rfl, q2, q3⟩
  · refine h_s rfl ?_
    refine h_k (y := (-1)) rfl rfl ?_
    refine h2_eq rfl rfl (fun h14 => ?_) (fun h14 => ?_)
    · exact absurd hb (by simp [h9, h14])
    · iterate 2 refine h_s rfl ?_
      refine h_cv rfl rfl rfl a54 rfl rfl (m_isHouse M _) ?_
      refine hz_ne rfl rfl (fun h22 => ?_) (fun h22 => ?_)
      · exact absurd hb (by simp [h9, h14, h22])
      · iterate 2 refine h_s rfl ?_
        refine hq_v rfl rfl rfl a54 rfl rfl (m_finds R0 0 (by omega) _ (by decide)) (fun v1 w1 q1 => ?_)
        obtain ⟨rfl, q2, q3⟩ := q1
        exact h_ri rfl rfl ⟨rfl, q2, q3⟩
set_option maxRecDepth 100000 in
set_option maxHeartbeats 4000000 in
theorem m_as_b (R : MW w s n st ks kp tp tn bo so nu) (a b : Int32) (hb : (inN a 10 && inN b 7) = false)  : ab_Q X kX6_as [.ref 54, .int a, .int b] w (MP w (-1000001) s n (bump st 0) ks kp tp tn bo so nu) := by
  have M := R.ms
  have R0 := R
  obtain ⟨oth, nz, mv, fr, to, vl, wr, a54, a55, a56, a57, a58, a59, a60, a61, a62, a63, a64, l, h0, hn, ht⟩ := R
  show ab_H X kX6_as 0 [some (.ref 54), some (.int a), some (.int b), none, none, none] [] w _
  iterate 4 refine h_s rfl ?_
  refine h_c rfl (m_inZ (m := 10) _ rfl rfl) ?_
  refine hz_eq rfl rfl (fun h9 => ?_) (fun h9 => ?_)
  · iterate 2 refine h_s rfl ?_
    refine hq_v rfl rfl rfl a54 rfl rfl (m_finds R0 0 (by omega) _ (by decide)) (fun v1 w1 q1 => ?_)
    obtain ⟨rfl, q2, q3⟩ := q1
    exact h_ri rfl rfl ⟨rfl, q2, q3⟩
  · iterate 4 refine h_s rfl ?_
    refine h_c rfl (m_inZ (m := 7) _ rfl rfl) ?_
    refine hz_ne rfl rfl (fun h21 => ?_) (fun h21 => ?_)
    · exact absurd hb (by simp [h9, h21])
    · iterate 2 refine h_s rfl ?_
      refine hq_v rfl rfl rfl a54 rfl rfl (m_finds R0 0 (by omega) _ (by decide)) (fun v1 w1 q1 => ?_)
      obtain ⟨rfl, q2, q3⟩ := q1
      exact h_ri rfl rfl ⟨rfl, q2, q3⟩
end MA
