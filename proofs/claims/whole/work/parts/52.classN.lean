/-! THE CLASS: calls that change the row -/
theorem wayOK_S {n h : Nat} (hh : h < n) (hn : n ≤ 8) (b : Int32) : wayOK n (nI h) b = wayS h b := by
  unfold wayOK wayS
  rw [inN_n (by omega) hh, Bool.true_and]
  have e1 : decide (nI h = 0) = decide (h = 0) := decide_eq_decide.mpr ⟨fun q => (nI_eq (by omega) (by decide)).mp q, fun q => by rw [q]; rfl⟩
  have e2 : decide (nI h = 7) = decide (h = 7) := decide_eq_decide.mpr ⟨fun q => (nI_eq (by omega) (by decide)).mp q, fun q => by rw [q]; rfl⟩
  have e3 : decide (-1 ≤ b.toInt ∧ b.toInt ≤ 1) = (!decide (b < -1) && !decide (1 < b)) := by
    rw [Bool.eq_iff_iff]
    simp only [Bool.and_eq_true, Bool.not_eq_true', decide_eq_true_eq, decide_eq_false_iff_not, lt_iff]
    rw [show ((-1 : Int32).toInt) = -1 from rfl, show ((1 : Int32).toInt) = 1 from rfl]
    omega
  rw [e1, e2, e3]
  simp only [Bool.not_or, Bool.and_assoc]
section XO
variable {X : List Int32} {w w1 : ab_W} {r : Nat} {s : List Int32} {n : Nat} {st ks : List Int32} {kp : Bool} {tp : List Int32} {tn : Nat} {bo so nu : List Int32}
set_option maxRecDepth 100000 in
set_option maxHeartbeats 4000000 in
theorem x_canBecome (XR : RowW w r s n) (b c : Int32) : ab_M X kX2_canBecome [.ref r, .int b, .int c] w (some (.int (z01 (partB n b c)))) w := by
  have r0 := XR.1
  show ab_G X kX2_canBecome 0 [some (.ref r), some (.int b), some (.int c)] [] w _ _
  cases hb : inN b 8 with
  | false =>
    refine ab_s rfl ?_
    refine ab_swd rfl (sw_out (m := 8) rfl hb) rfl ?_
    refine ab_k (y := 0) rfl rfl ?_
    exact ab_ri rfl (by rw [partB_out hb]; rfl)
  | true =>
    obtain ⟨j, hj, rfl⟩ := inN_t (by omega) hb
    rcases (show j = 0 ∨ j = 1 ∨ j = 2 ∨ j = 3 ∨ j = 4 ∨ j = 5 ∨ j = 6 ∨ j = 7 by omega) with rfl | rfl | rfl | rfl | rfl | rfl | rfl | rfl
    · refine ab_s rfl ?_
      refine ab_Nsw (a := 0) rfl rfl (by decide) rfl rfl ?_
      refine ab_s rfl ?_
      refine ab_c rfl (x_isKind c) ?_
      refine ab_n (st2 := [_]) rfl ?_
      exact ab_rz rfl rfl rfl
    · refine ab_s rfl ?_
      refine ab_Nsw (a := 1) rfl rfl (by decide) rfl rfl ?_
      refine ab_k (y := 0) rfl rfl ?_
      exact ab_ri rfl (by unfold partB; rfl)
    · refine ab_s rfl ?_
      refine ab_Nsw (a := 2) rfl rfl (by decide) rfl rfl ?_
      refine ab_k (y := 0) rfl rfl ?_
      exact ab_ri rfl (by unfold partB; rfl)
    · refine ab_s rfl ?_
      refine ab_Nsw (a := 3) rfl rfl (by decide) rfl rfl ?_
      refine ab_s rfl ?_
      refine ab_k (y := 24) rfl rfl ?_
      refine ab_c rfl (x_isBelow c 24 (by decide)) ?_
      refine ab_n (st2 := [_]) rfl ?_
      exact ab_rz rfl rfl rfl
    · refine ab_s rfl ?_
      refine ab_Nsw (a := 4) rfl rfl (by decide) rfl rfl ?_
      refine ab_s rfl ?_
      refine ab_k (y := 24) rfl rfl ?_
      refine ab_c rfl (x_isBelow c 24 (by decide)) ?_
      refine ab_n (st2 := [_]) rfl ?_
      exact ab_rz rfl rfl rfl
    · refine ab_s rfl ?_
      refine ab_Nsw (a := 5) rfl rfl (by decide) rfl rfl ?_
      refine ab_k (y := 0) rfl rfl ?_
      exact ab_ri rfl (by unfold partB; rfl)
    · refine ab_s rfl ?_
      refine ab_Nsw (a := 6) rfl rfl (by decide) rfl rfl ?_
      refine ab_s rfl ?_
      refine j1_lt rfl rfl (fun h61 => ?_) (fun h61 => ?_)
      · refine ab_k (y := 0) rfl rfl ?_
        exact ab_ri rfl (by show _ = z01 (inN c 10); first | (rw [inN_lt0 h61]; rfl) | (rw [show inN c 10 = true from inN_rng (m := 9) (by decide) h61 h67]; rfl) | (rw [show inN c 10 = false from inN_geN (m := 10) (by decide) (by rw [le_iff]; rw [lt_iff] at h67; exact h67)]; rfl))
      · refine ab_s rfl ?_
        refine ab_k (y := 9) rfl rfl ?_
        refine j2_gt rfl rfl (fun h67 => ?_) (fun h67 => ?_)
        · refine ab_k (y := 0) rfl rfl ?_
          exact ab_ri rfl (by show _ = z01 (inN c 10); first | (rw [inN_lt0 h61]; rfl) | (rw [show inN c 10 = true from inN_rng (m := 9) (by decide) h61 h67]; rfl) | (rw [show inN c 10 = false from inN_geN (m := 10) (by decide) (by rw [le_iff]; rw [lt_iff] at h67; exact h67)]; rfl))
        · refine ab_k (y := 1) rfl rfl ?_
          refine ab_s rfl ?_
          exact ab_ri rfl (by show _ = z01 (inN c 10); first | (rw [inN_lt0 h61]; rfl) | (rw [show inN c 10 = true from inN_rng (m := 9) (by decide) h61 h67]; rfl) | (rw [show inN c 10 = false from inN_geN (m := 10) (by decide) (by rw [le_iff]; rw [lt_iff] at h67; exact h67)]; rfl))
    · refine ab_s rfl ?_
      refine ab_Nsw (a := 7) rfl rfl (by decide) rfl rfl ?_
      iterate 2 refine ab_s rfl ?_
      refine ab_cv rfl rfl rfl r0 rfl rfl (x_rhas XR c) ?_
      refine ab_n (st2 := [_]) rfl ?_
      exact ab_rz rfl rfl rfl
set_option maxRecDepth 100000 in
set_option maxHeartbeats 4000000 in
theorem x_change_b (R : XW w s n st ks kp tp tn bo so nu) (a b c : Int32) (hb : (inN a n && partB n b c) = false)  : ab_Q X kX5_change [.ref 0, .int a, .int b, .int c] w (XP w (-1000001) s n (bump st 0) ks kp tp tn bo so nu) := by
  have R0 := R
  obtain ⟨x0, XR, ⟨sd, nd, XD⟩, ⟨sk, nk, XK, hkp⟩, XPl, XT, XS, x45, xl⟩ := R
  have r0 := XR.1
  have p0 := XPl.1
  have d0 := XD.1
  have hn : n ≤ 8 := XR.2.2.2.2.2.2.2
  have RC := R0
  show ab_H X kX5_change 0 [some (.ref 0), some (.int a), some (.int b), some (.int c), none, none] [] w _
  cases ha : inN a n with
  | false =>
    refine h_s rfl ?_
    refine h_gf rfl rfl rfl x0 rfl ?_
    refine h_s rfl ?_
    refine h_cv rfl rfl rfl r0 rfl rfl (x_atO XR a ha) ?_
    refine h_n (st2 := [_]) rfl ?_
    iterate 4 refine h_s rfl ?_
    refine h_k (y := (-1000001)) rfl rfl ?_
    refine hq_v rfl rfl rfl x0 rfl rfl (x_found RC 0 (by omega) _ (by decide)) (fun v9 w9 q9 => ?_)
    obtain ⟨rfl, q2, q3⟩ := q9
    refine h_n (st2 := [_]) rfl ?_
    exact h_ri rfl rfl ⟨rfl, q2, q3⟩
  | true =>
    obtain ⟨j, hj, rfl⟩ := inN_t (by omega) ha
    refine h_s rfl ?_
    refine h_gf rfl rfl rfl x0 rfl ?_
    refine h_s rfl ?_
    refine h_cv rfl rfl rfl r0 rfl rfl (x_at XR hj) ?_
    refine h_n (st2 := [_]) rfl ?_
    iterate 4 refine h_s rfl ?_
    refine h_gf rfl rfl rfl x0 rfl ?_
    iterate 2 refine h_s rfl ?_
    refine h_cv rfl rfl rfl r0 rfl rfl (x_canBecome XR b c) ?_
    refine h_n (st2 := [_]) rfl ?_
    refine hz_ne rfl rfl (fun h24 => ?_) (fun h24 => ?_)
    · exact absurd hb (by simp [ha, h24])
    · refine h_s rfl ?_
      refine h_k (y := (-1000001)) rfl rfl ?_
      refine hq_v rfl rfl rfl x0 rfl rfl (x_found RC 0 (by omega) _ (by decide)) (fun v9 w9 q9 => ?_)
      obtain ⟨rfl, q2, q3⟩ := q9
      refine h_n (st2 := [_]) rfl ?_
      exact h_ri rfl rfl ⟨rfl, q2, q3⟩
set_option maxRecDepth 100000 in
set_option maxHeartbeats 4000000 in
theorem x_change_k (R : XW w s n st ks kp tp tn bo so nu) (h k : Nat) (c : Int32) (hh : h < n) (hk : k < 8) (hc : partB n (nI k) c = true) : ab_Q X kX5_change [.ref 0, .int (nI h), .int (nI k), .int c] w (XP w (fld s h k) (s.set (2 + 8 * h + k) c) n st ks kp tp tn bo so nu) := by
  have R0 := R
  obtain ⟨x0, XR, ⟨sd, nd, XD⟩, ⟨sk, nk, XK, hkp⟩, XPl, XT, XS, x45, xl⟩ := R
  have r0 := XR.1
  have p0 := XPl.1
  have d0 := XD.1
  have hn : n ≤ 8 := XR.2.2.2.2.2.2.2
  have RC := R0
  show ab_H X kX5_change 0 [some (.ref 0), some (.int (nI h)), some (.int (nI k)), some (.int c), none, none] [] w _
  refine h_s rfl ?_
  refine h_gf rfl rfl rfl x0 rfl ?_
  refine h_s rfl ?_
  refine h_cv rfl rfl rfl r0 rfl rfl (x_at XR hh) ?_
  refine h_n (st2 := [_]) rfl ?_
  iterate 4 refine h_s rfl ?_
  refine h_gf rfl rfl rfl x0 rfl ?_
  iterate 2 refine h_s rfl ?_
  refine h_cv rfl rfl rfl r0 rfl rfl (x_canBecome XR (nI k) c) ?_
  refine h_n (st2 := [_]) rfl ?_
  refine hz_ne rfl rfl (fun h24 => ?_) (fun h24 => absurd (show (true = false) from (show _ = true from hc).symm.trans h24) (by decide))
  iterate 2 refine h_s rfl ?_
  refine h_cv rfl rfl rfl (XR.2.2.2.1 h hh) rfl rfl (x_tell (XR.2.2.2.1 h hh) hk) ?_
  refine h_n (st2 := [_]) rfl ?_
  iterate 4 refine h_s rfl ?_
  have hl := XR.2.2.2.2.2.1
  refine hq_v rfl rfl rfl (XR.2.2.2.1 h hh) rfl rfl (x_become (XR.2.2.2.1 h hh) (partB_n hk hc) c hl (by omega)) (fun v1 w1 q1 => ?_)
  obtain ⟨rfl, e1, f1⟩ := q1
  refine h_n (st2 := []) rfl ?_
  refine h_s rfl ?_
  exact h_ri rfl rfl ⟨rfl, R0.row (XR.setf hh hk (by rw [e1, hL_set hl (by omega) hk]) f1) (fun i hi => f1 i (by omega)), fun i hi => f1 i (by omega)⟩
set_option maxRecDepth 100000 in
set_option maxHeartbeats 4000000 in
theorem x_stair_b (R : XW w s n st ks kp tp tn bo so nu) (a b : Int32) (hb : (wayOK n a b) = false)  : ab_Q X kX5_stair [.ref 0, .int a, .int b] w (XP w (-1000001) s n (bump st 0) ks kp tp tn bo so nu) := by
  have R0 := R
  obtain ⟨x0, XR, ⟨sd, nd, XD⟩, ⟨sk, nk, XK, hkp⟩, XPl, XT, XS, x45, xl⟩ := R
  have r0 := XR.1
  have p0 := XPl.1
  have d0 := XD.1
  have hn : n ≤ 8 := XR.2.2.2.2.2.2.2
  have RC := R0
  show ab_H X kX5_stair 0 [some (.ref 0), some (.int a), some (.int b), none, none] [] w _
  cases ha : inN a n with
  | false =>
    refine h_s rfl ?_
    refine h_gf rfl rfl rfl x0 rfl ?_
    refine h_s rfl ?_
    refine h_cv rfl rfl rfl r0 rfl rfl (x_atO XR a ha) ?_
    refine h_n (st2 := [_]) rfl ?_
    iterate 4 refine h_s rfl ?_
    refine h_k (y := (-1000001)) rfl rfl ?_
    refine hq_v rfl rfl rfl x0 rfl rfl (x_found RC 0 (by omega) _ (by decide)) (fun v9 w9 q9 => ?_)
    obtain ⟨rfl, q2, q3⟩ := q9
    refine h_n (st2 := [_]) rfl ?_
    exact h_ri rfl rfl ⟨rfl, q2, q3⟩
  | true =>
    obtain ⟨j, hj, rfl⟩ := inN_t (by omega) ha
    refine h_s rfl ?_
    refine h_gf rfl rfl rfl x0 rfl ?_
    refine h_s rfl ?_
    refine h_cv rfl rfl rfl r0 rfl rfl (x_at XR hj) ?_
    refine h_n (st2 := [_]) rfl ?_
    iterate 5 refine h_s rfl ?_
    refine h_c rfl (x_isStair j (by omega) b) ?_
    refine h_n (st2 := [_]) rfl ?_
    refine hz_ne rfl rfl (fun h18 => ?_) (fun h18 => ?_)
    · rw [wayOK_S hj hn] at hb
      have hv : wayS j b = true := h18
      exact absurd (hb.symm.trans hv) (by decide)
    · refine h_s rfl ?_
      refine h_k (y := (-1000001)) rfl rfl ?_
      refine hq_v rfl rfl rfl x0 rfl rfl (x_found RC 0 (by omega) _ (by decide)) (fun v9 w9 q9 => ?_)
      obtain ⟨rfl, q2, q3⟩ := q9
      refine h_n (st2 := [_]) rfl ?_
      exact h_ri rfl rfl ⟨rfl, q2, q3⟩
set_option maxRecDepth 100000 in
set_option maxHeartbeats 4000000 in
theorem x_stair_km (R : XW w s n st ks kp tp tn bo so nu) (h : Nat) (hh : h < n)  : ab_Q X kX5_stair [.ref 0, .int (nI h), .int (-1)] w (XP w (fld s h 1) (s.set (2 + 8 * h + 1) (-1)) n st ks kp tp tn bo so nu) := by
  have R0 := R
  obtain ⟨x0, XR, ⟨sd, nd, XD⟩, ⟨sk, nk, XK, hkp⟩, XPl, XT, XS, x45, xl⟩ := R
  have r0 := XR.1
  have p0 := XPl.1
  have d0 := XD.1
  have hn : n ≤ 8 := XR.2.2.2.2.2.2.2
  have RC := R0
  show ab_H X kX5_stair 0 [some (.ref 0), some (.int (nI h)), some (.int (-1)), none, none] [] w _
  refine h_s rfl ?_
  refine h_gf rfl rfl rfl x0 rfl ?_
  refine h_s rfl ?_
  refine h_cv rfl rfl rfl r0 rfl rfl (x_at XR hh) ?_
  refine h_n (st2 := [_]) rfl ?_
  iterate 5 refine h_s rfl ?_
  refine h_c rfl (x_isStair h (by omega) (-1)) ?_
  refine h_t (y := 1) (by rw [show wayS h (-1) = true from by unfold wayS; simp [show ¬ ((-1) : Int32) < -1 from by decide, show ¬ (1 : Int32) < (-1) from by decide, show ¬ (-1 : Int32) = 0 from by decide, show ¬ (-1 : Int32) = 1 from by decide]]; rfl) ?_
  refine h_n (st2 := [_]) rfl ?_
  iterate 2 refine h_s rfl ?_
  refine h_gf rfl rfl rfl (XR.2.2.2.1 h hh) rfl ?_
  iterate 4 refine h_s rfl ?_
  refine h_k (y := (-1)) rfl rfl ?_
  refine h_s rfl ?_
  refine h_pf rfl rfl (XR.2.2.2.1 h hh) rfl (fun w1 e1 f1 => ?_)
  have XR1 := XR.setf (v := (-1)) (j := 1) hh (by decide) e1 f1
  refine h_s rfl ?_
  exact h_ri rfl rfl ⟨rfl, R0.row XR1 (fun i hi => f1 i (by omega)), fun i hi => f1 i (by omega)⟩
set_option maxRecDepth 100000 in
set_option maxHeartbeats 4000000 in
theorem x_stair_k0 (R : XW w s n st ks kp tp tn bo so nu) (h : Nat) (hh : h < n) (h0' : 0 < h) : ab_Q X kX5_stair [.ref 0, .int (nI h), .int 0] w (XP w (fld s h 1) (s.set (2 + 8 * h + 1) (nI (h - 1))) n st ks kp tp tn bo so nu) := by
  have R0 := R
  obtain ⟨x0, XR, ⟨sd, nd, XD⟩, ⟨sk, nk, XK, hkp⟩, XPl, XT, XS, x45, xl⟩ := R
  have r0 := XR.1
  have p0 := XPl.1
  have d0 := XD.1
  have hn : n ≤ 8 := XR.2.2.2.2.2.2.2
  have RC := R0
  show ab_H X kX5_stair 0 [some (.ref 0), some (.int (nI h)), some (.int 0), none, none] [] w _
  refine h_s rfl ?_
  refine h_gf rfl rfl rfl x0 rfl ?_
  refine h_s rfl ?_
  refine h_cv rfl rfl rfl r0 rfl rfl (x_at XR hh) ?_
  refine h_n (st2 := [_]) rfl ?_
  iterate 5 refine h_s rfl ?_
  refine h_c rfl (x_isStair h (by omega) 0) ?_
  refine h_t (y := 1) (by rw [show wayS h 0 = true from by unfold wayS; simp [show ¬ (0 : Int32) < -1 from by decide, show ¬ (1 : Int32) < 0 from by decide, show ¬ (0 : Int32) = 1 from by decide, show ¬ h = 0 by omega]]; rfl) ?_
  refine h_n (st2 := [_]) rfl ?_
  iterate 2 refine h_s rfl ?_
  refine h_gf rfl rfl rfl (XR.2.2.2.1 h hh) rfl ?_
  iterate 5 refine h_s rfl ?_
  refine h_k (y := 1) rfl rfl ?_
  refine h_Nsub (b := 1) rfl rfl rfl (by omega) ?_
  refine h_k (y := 2) rfl rfl ?_
  refine h_s rfl ?_
  refine h_s rfl ?_
  refine h_t (y := 0) rfl ?_
  refine h_Nadd (b := 0) rfl rfl rfl ?_
  refine h_pf rfl rfl (XR.2.2.2.1 h hh) rfl (fun w1 e1 f1 => ?_)
  have XR1 := XR.setf (v := (nI (h - 1))) (j := 1) hh (by decide) e1 f1
  refine h_s rfl ?_
  exact h_ri rfl rfl ⟨rfl, R0.row XR1 (fun i hi => f1 i (by omega)), fun i hi => f1 i (by omega)⟩
set_option maxRecDepth 100000 in
set_option maxHeartbeats 4000000 in
theorem x_stair_k1 (R : XW w s n st ks kp tp tn bo so nu) (h : Nat) (hh : h < n) (h7' : h < 7) : ab_Q X kX5_stair [.ref 0, .int (nI h), .int 1] w (XP w (fld s h 1) (s.set (2 + 8 * h + 1) (nI (h + 1))) n st ks kp tp tn bo so nu) := by
  have R0 := R
  obtain ⟨x0, XR, ⟨sd, nd, XD⟩, ⟨sk, nk, XK, hkp⟩, XPl, XT, XS, x45, xl⟩ := R
  have r0 := XR.1
  have p0 := XPl.1
  have d0 := XD.1
  have hn : n ≤ 8 := XR.2.2.2.2.2.2.2
  have RC := R0
  show ab_H X kX5_stair 0 [some (.ref 0), some (.int (nI h)), some (.int 1), none, none] [] w _
  refine h_s rfl ?_
  refine h_gf rfl rfl rfl x0 rfl ?_
  refine h_s rfl ?_
  refine h_cv rfl rfl rfl r0 rfl rfl (x_at XR hh) ?_
  refine h_n (st2 := [_]) rfl ?_
  iterate 5 refine h_s rfl ?_
  refine h_c rfl (x_isStair h (by omega) 1) ?_
  refine h_t (y := 1) (by rw [show wayS h 1 = true from by unfold wayS; simp [show ¬ (1 : Int32) < -1 from by decide, show ¬ (1 : Int32) < 1 from by decide, show ¬ (1 : Int32) = 0 from by decide, show ¬ h = 7 by omega]]; rfl) ?_
  refine h_n (st2 := [_]) rfl ?_
  iterate 2 refine h_s rfl ?_
  refine h_gf rfl rfl rfl (XR.2.2.2.1 h hh) rfl ?_
  iterate 5 refine h_s rfl ?_
  refine h_k (y := 1) rfl rfl ?_
  refine h_s rfl ?_
  refine h_k (y := 2) rfl rfl ?_
  refine h_s rfl ?_
  refine h_s rfl ?_
  refine h_t (y := 2) rfl ?_
  refine h_s rfl ?_
  refine h_t (y := nI (h + 1)) ((by decide +kernel : ∀ h, h < 7 → nI h - 1 + 2 = nI (h + 1)) h h7') ?_
  refine h_pf rfl rfl (XR.2.2.2.1 h hh) rfl (fun w1 e1 f1 => ?_)
  have XR1 := XR.setf (v := (nI (h + 1))) (j := 1) hh (by decide) e1 f1
  refine h_s rfl ?_
  exact h_ri rfl rfl ⟨rfl, R0.row XR1 (fun i hi => f1 i (by omega)), fun i hi => f1 i (by omega)⟩
set_option maxRecDepth 100000 in
set_option maxHeartbeats 4000000 in
theorem x_name_k0 (R : XW w s n st ks kp tp tn bo so nu) (h f : Nat) (z : Bool) (hh : h < n) (hf : f < 8) : ab_Q X kX5_name [.ref 0, .int (nI h), .int 0, .int (nI f), .int (z01 z)] w (XP w (z01 (bt (fld s h 2) f)) (s.set (2 + 8 * h + 2) (markI (fld s h 2) f z)) n st ks kp tp tn bo so nu) := by
  have R0 := R
  obtain ⟨x0, XR, ⟨sd, nd, XD⟩, ⟨sk, nk, XK, hkp⟩, XPl, XT, XS, x45, xl⟩ := R
  have r0 := XR.1
  have p0 := XPl.1
  have d0 := XD.1
  have hn : n ≤ 8 := XR.2.2.2.2.2.2.2
  have RC := R0
  show ab_H X kX5_name 0 [some (.ref 0), some (.int (nI h)), some (.int 0), some (.int (nI f)), some (.int (z01 z)), none, none] [] w _
  refine h_s rfl ?_
  refine h_gf rfl rfl rfl x0 rfl ?_
  refine h_s rfl ?_
  refine h_cv rfl rfl rfl r0 rfl rfl (x_at XR hh) ?_
  refine h_n (st2 := [_]) rfl ?_
  iterate 6 refine h_s rfl ?_
  refine h_k (y := 1) rfl rfl ?_
  iterate 2 refine h_s rfl ?_
  refine h_k (y := 8) rfl rfl ?_
  refine h_c rfl (x_isBelow (nI f) 8 (by decide)) ?_
  refine h_t (y := 1) (by rw [inN_n (by decide) (by omega)]; rfl) ?_
  refine h_n (st2 := [_]) rfl ?_
  iterate 4 refine h_s rfl ?_
  refine h_gf rfl rfl rfl (XR.2.2.2.1 h hh) rfl ?_
  iterate 8 refine h_s rfl ?_
  refine h_c rfl (x_marked (fld s h 2) f z) ?_
  refine h_n (st2 := [_, _]) rfl ?_
  refine h_pf rfl rfl (XR.2.2.2.1 h hh) rfl (fun w1 e1 f1 => ?_)
  have XR1 := XR.setf (v := markI (fld s h 2) f z) (j := 2) hh (by decide) e1 f1
  iterate 3 refine h_s rfl ?_
  refine h_c rfl (x_isIn (fld s h 2) (by omega)) ?_
  refine h_n (st2 := [_]) rfl ?_
  refine hz_eq rfl rfl (fun h98 => ?_) (fun h98 => ?_)
  · refine h_k (y := 0) rfl rfl ?_
    rw [h98]
    exact h_ri rfl rfl ⟨rfl, R0.row XR1 (fun i hi => f1 i (by omega)), fun i hi => f1 i (by omega)⟩
  · refine h_k (y := 1) rfl rfl ?_
    refine h_s rfl ?_
    rw [h98]
    exact h_ri rfl rfl ⟨rfl, R0.row XR1 (fun i hi => f1 i (by omega)), fun i hi => f1 i (by omega)⟩
set_option maxRecDepth 100000 in
set_option maxHeartbeats 4000000 in
theorem x_name_k1 (R : XW w s n st ks kp tp tn bo so nu) (h f : Nat) (z : Bool) (hh : h < n) (hf : f < 8) : ab_Q X kX5_name [.ref 0, .int (nI h), .int 1, .int (nI f), .int (z01 z)] w (XP w (z01 (bt (fld s h 5) f)) (s.set (2 + 8 * h + 5) (markI (fld s h 5) f z)) n st ks kp tp tn bo so nu) := by
  have R0 := R
  obtain ⟨x0, XR, ⟨sd, nd, XD⟩, ⟨sk, nk, XK, hkp⟩, XPl, XT, XS, x45, xl⟩ := R
  have r0 := XR.1
  have p0 := XPl.1
  have d0 := XD.1
  have hn : n ≤ 8 := XR.2.2.2.2.2.2.2
  have RC := R0
  show ab_H X kX5_name 0 [some (.ref 0), some (.int (nI h)), some (.int 1), some (.int (nI f)), some (.int (z01 z)), none, none] [] w _
  refine h_s rfl ?_
  refine h_gf rfl rfl rfl x0 rfl ?_
  refine h_s rfl ?_
  refine h_cv rfl rfl rfl r0 rfl rfl (x_at XR hh) ?_
  refine h_n (st2 := [_]) rfl ?_
  iterate 6 refine h_s rfl ?_
  refine h_k (y := 1) rfl rfl ?_
  iterate 2 refine h_s rfl ?_
  refine h_k (y := 8) rfl rfl ?_
  refine h_c rfl (x_isBelow (nI f) 8 (by decide)) ?_
  refine h_t (y := 1) (by rw [inN_n (by decide) (by omega)]; rfl) ?_
  refine h_n (st2 := [_]) rfl ?_
  iterate 4 refine h_s rfl ?_
  refine h_gf rfl rfl rfl (XR.2.2.2.1 h hh) rfl ?_
  iterate 7 refine h_s rfl ?_
  refine h_c rfl (x_marked (fld s h 5) f z) ?_
  refine h_n (st2 := [_, _]) rfl ?_
  refine h_pf rfl rfl (XR.2.2.2.1 h hh) rfl (fun w1 e1 f1 => ?_)
  have XR1 := XR.setf (v := markI (fld s h 5) f z) (j := 5) hh (by decide) e1 f1
  iterate 2 refine h_s rfl ?_
  refine h_c rfl (x_isIn (fld s h 5) (by omega)) ?_
  refine h_n (st2 := [_]) rfl ?_
  refine hz_eq rfl rfl (fun h98 => ?_) (fun h98 => ?_)
  · refine h_k (y := 0) rfl rfl ?_
    rw [h98]
    exact h_ri rfl rfl ⟨rfl, R0.row XR1 (fun i hi => f1 i (by omega)), fun i hi => f1 i (by omega)⟩
  · refine h_k (y := 1) rfl rfl ?_
    refine h_s rfl ?_
    rw [h98]
    exact h_ri rfl rfl ⟨rfl, R0.row XR1 (fun i hi => f1 i (by omega)), fun i hi => f1 i (by omega)⟩
set_option maxRecDepth 100000 in
set_option maxHeartbeats 4000000 in
theorem x_door_k (R : XW w s n st ks kp tp tn bo so nu) (I : SI s n) (d : Nat) (z : Bool) (hd : d < 14) : ab_Q X kX5_door [.ref 0, .int (nI d), .int (z01 z)] w (XP w (s.getD (66 + d) 0) (s.set (66 + d) (z01 z)) n st ks kp tp tn bo so nu) := by
  have R0 := R
  obtain ⟨x0, XR, ⟨sd, nd, XD⟩, ⟨sk, nk, XK, hkp⟩, XPl, XT, XS, x45, xl⟩ := R
  have r0 := XR.1
  have p0 := XPl.1
  have d0 := XD.1
  have hn : n ≤ 8 := XR.2.2.2.2.2.2.2
  have RC := R0
  show ab_H X kX5_door 0 [some (.ref 0), some (.int (nI d)), some (.int (z01 z)), none] [] w _
  refine h_s rfl ?_
  refine h_k (y := 14) rfl rfl ?_
  refine h_c rfl (x_isBelow (nI d) 14 (by decide)) ?_
  refine h_t (y := 1) (by rw [inN_n (by decide) (by omega)]; rfl) ?_
  refine h_n (st2 := [_]) rfl ?_
  iterate 2 refine h_s rfl ?_
  refine h_gf rfl rfl rfl x0 rfl ?_
  refine h_s rfl ?_
  refine h_cv rfl rfl rfl r0 rfl rfl (x_isOpen XR (nI d)) ?_
  refine h_t (y := z01 (dB s d)) (by rw [inN_n (by omega) hd, nI_clamp (by omega), Bool.true_and]) ?_
  refine h_n (st2 := [_]) rfl ?_
  refine hz_eq rfl rfl (fun h24 => ?_) (fun h24 => ?_)
  · refine h_k (y := 0) rfl rfl ?_
    iterate 2 refine h_s rfl ?_
    refine h_gf rfl rfl rfl x0 rfl ?_
    iterate 2 refine h_s rfl ?_
    refine hq_v rfl rfl rfl r0 rfl rfl (x_setDoor XR hd z) (fun v1 w1 q1 => ?_)
    obtain ⟨rfl, XR1, f1⟩ := q1
    refine h_n (st2 := []) rfl ?_
    refine h_s rfl ?_
    obtain ⟨b, hb⟩ := I.2.1 d hd
    have hbd : dB s d = b := by
      unfold dB
      rw [hb]
      cases b <;> rfl
    rw [hbd] at h24
    rw [hb, h24]
    exact h_ri rfl rfl ⟨rfl, R0.row XR1 (fun i hi => f1 i (by omega)), fun i hi => f1 i (by omega)⟩
  · refine h_k (y := 1) rfl rfl ?_
    iterate 3 refine h_s rfl ?_
    refine h_gf rfl rfl rfl x0 rfl ?_
    iterate 2 refine h_s rfl ?_
    refine hq_v rfl rfl rfl r0 rfl rfl (x_setDoor XR hd z) (fun v1 w1 q1 => ?_)
    obtain ⟨rfl, XR1, f1⟩ := q1
    refine h_n (st2 := []) rfl ?_
    refine h_s rfl ?_
    obtain ⟨b, hb⟩ := I.2.1 d hd
    have hbd : dB s d = b := by
      unfold dB
      rw [hb]
      cases b <;> rfl
    rw [hbd] at h24
    rw [hb, h24]
    exact h_ri rfl rfl ⟨rfl, R0.row XR1 (fun i hi => f1 i (by omega)), fun i hi => f1 i (by omega)⟩
set_option maxRecDepth 100000 in
set_option maxHeartbeats 4000000 in
theorem x_seed_k (R : XW w s n st ks kp tp tn bo so nu) (v : Int32) : ab_Q X kX5_seed [.ref 0, .int v] w (XP w (s.getD 1 0) (s.set 1 v) n st ks kp tp tn bo so nu) := by
  have R0 := R
  obtain ⟨x0, XR, ⟨sd, nd, XD⟩, ⟨sk, nk, XK, hkp⟩, XPl, XT, XS, x45, xl⟩ := R
  have r0 := XR.1
  have p0 := XPl.1
  have d0 := XD.1
  have hn : n ≤ 8 := XR.2.2.2.2.2.2.2
  have RC := R0
  show ab_H X kX5_seed 0 [some (.ref 0), some (.int v), none] [] w _
  refine h_s rfl ?_
  refine h_gf rfl rfl rfl x0 rfl ?_
  refine h_gf rfl rfl rfl r0 rfl ?_
  iterate 2 refine h_s rfl ?_
  refine h_gf rfl rfl rfl x0 rfl ?_
  refine h_s rfl ?_
  refine h_pf rfl rfl r0 rfl (fun w1 e1 f1 => ?_)
  refine h_s rfl ?_
  exact h_ri rfl rfl ⟨rfl, R0.row (XR.setz e1 f1) (fun i hi => f1 i (by omega)), fun i hi => f1 i (by omega)⟩
set_option maxRecDepth 100000 in
set_option maxHeartbeats 4000000 in
theorem x_hold_k (R : XW w s n st ks kp tp tn bo so nu) (k : Nat) (a : Int32) (hk : k < 10) (ha : a = -1 ∨ isN a n) : ab_Q X kX5_hold [.ref 0, .int (nI k), .int a] w (XP w 1 (s.set (80 + k) a) n st ks kp tp tn bo so nu) := by
  have R0 := R
  obtain ⟨x0, XR, ⟨sd, nd, XD⟩, ⟨sk, nk, XK, hkp⟩, XPl, XT, XS, x45, xl⟩ := R
  have r0 := XR.1
  have p0 := XPl.1
  have d0 := XD.1
  have hn : n ≤ 8 := XR.2.2.2.2.2.2.2
  have RC := R0
  have hdl : (s.drop 80).length = 10 := by rw [List.length_drop, XR.2.2.2.2.2.1]
  have r2 := XR.2.2.1
  show ab_H X kX5_hold 0 [some (.ref 0), some (.int (nI k)), some (.int a)] [] w _
  refine h_s rfl ?_
  refine h_k (y := 10) rfl rfl ?_
  refine h_c rfl (x_isBelow (nI k) 10 (by decide)) ?_
  refine h_t (y := 1) (by rw [inN_n (by decide) (by omega)]; rfl) ?_
  refine h_n (st2 := [_]) rfl ?_
  iterate 2 refine h_s rfl ?_
  refine h_k (y := (-1)) rfl rfl ?_
  refine h2_eq rfl rfl (fun h11 => ?_) (fun h11 => ?_)
  · refine h_s rfl ?_
    refine h_gf rfl rfl rfl x0 rfl ?_
    refine h_gf rfl rfl rfl r0 rfl ?_
    iterate 2 refine h_s rfl ?_
    refine hq_c rfl (x_put r2 (by omega) (j := k) (by omega) a) (fun v1 w1 q1 => ?_)
    obtain ⟨rfl, e1, f1⟩ := q1
    refine h_n (st2 := []) rfl ?_
    refine h_k (y := 1) rfl rfl ?_
    exact h_ri rfl rfl ⟨rfl, R0.row (XR.sets hk e1 f1) (fun i hi => f1 i (by omega)), fun i hi => f1 i (by omega)⟩
  · refine h_s rfl ?_
    refine h_gf rfl rfl rfl x0 rfl ?_
    refine h_s rfl ?_
    refine h_cv rfl rfl rfl r0 rfl rfl (x_rhas XR _) ?_
    refine h_n (st2 := [_]) rfl ?_
    refine hz_ne rfl rfl (fun h22 => ?_) (fun h22 => ?_)
    · refine h_s rfl ?_
      refine h_gf rfl rfl rfl x0 rfl ?_
      refine h_gf rfl rfl rfl r0 rfl ?_
      iterate 2 refine h_s rfl ?_
      refine hq_c rfl (x_put r2 (by omega) (j := k) (by omega) a) (fun v1 w1 q1 => ?_)
      obtain ⟨rfl, e1, f1⟩ := q1
      refine h_n (st2 := []) rfl ?_
      refine h_k (y := 1) rfl rfl ?_
      exact h_ri rfl rfl ⟨rfl, R0.row (XR.sets hk e1 f1) (fun i hi => f1 i (by omega)), fun i hi => f1 i (by omega)⟩
    · exact absurd h22 (by rw [(inN_iff (by omega)).mpr (ha.resolve_left h11)]; decide)
set_option maxRecDepth 100000 in
set_option maxHeartbeats 4000000 in
theorem x_as_m (R : XW w s n st ks kp tp tn bo so nu) (k j : Nat) (hk : k < 10) (hj : j < 7) (hs : s.getD (80 + k) 0 = -1) : ab_Q X kX5_as [.ref 0, .int (nI k), .int (nI j)] w (XP w (-1000006) s n (bump st 5) ks kp tp tn bo so nu) := by
  have R0 := R
  obtain ⟨x0, XR, ⟨sd, nd, XD⟩, ⟨sk, nk, XK, hkp⟩, XPl, XT, XS, x45, xl⟩ := R
  have r0 := XR.1
  have p0 := XPl.1
  have d0 := XD.1
  have hn : n ≤ 8 := XR.2.2.2.2.2.2.2
  have RC := R0
  show ab_H X kX5_as 0 [some (.ref 0), some (.int (nI k)), some (.int (nI j)), none] [] w _
  refine h_s rfl ?_
  refine h_k (y := 10) rfl rfl ?_
  refine h_c rfl (x_isBelow (nI k) 10 (by decide)) ?_
  refine h_t (y := 1) (by rw [inN_n (by decide) (by omega)]; rfl) ?_
  refine h_n (st2 := [_]) rfl ?_
  iterate 2 refine h_s rfl ?_
  refine h_c rfl (x_isKind (nI j)) ?_
  refine h_t (y := 1) (by rw [inN_n (by decide) (by omega)]; rfl) ?_
  refine h_n (st2 := [_]) rfl ?_
  iterate 2 refine h_s rfl ?_
  refine h_gf rfl rfl rfl x0 rfl ?_
  refine h_s rfl ?_
  refine h_gf rfl rfl rfl x0 rfl ?_
  refine h_gf rfl rfl rfl r0 rfl ?_
  refine h_s rfl ?_
  refine h_c rfl (x_cell (XR.2.2.1) (by rw [List.length_drop, XR.2.2.2.2.2.1]; decide) (j := k) (by rw [List.length_drop, XR.2.2.2.2.2.1]; omega)) ?_
  refine h_t (y := (-1)) ((sp_g s k).trans hs) ?_
  refine h_n (st2 := [_, _]) rfl ?_
  refine h_cv rfl rfl rfl r0 rfl rfl (x_atO XR (-1) (inN_m1 n)) ?_
  refine h_n (st2 := [_]) rfl ?_
  iterate 4 refine h_s rfl ?_
  refine h_k (y := (-1000006)) rfl rfl ?_
  refine hq_v rfl rfl rfl x0 rfl rfl (x_found RC 5 (by omega) _ (by decide)) (fun v9 w9 q9 => ?_)
  obtain ⟨rfl, q2, q3⟩ := q9
  refine h_n (st2 := [_]) rfl ?_
  exact h_ri rfl rfl ⟨rfl, q2, q3⟩
set_option maxRecDepth 100000 in
set_option maxHeartbeats 4000000 in
theorem x_as_k (R : XW w s n st ks kp tp tn bo so nu) (I : SI s n) (k j h : Nat) (hk : k < 10) (hj : j < 7) (hh : h < n) (hs : s.getD (80 + k) 0 = nI h) : ab_Q X kX5_as [.ref 0, .int (nI k), .int (nI j)] w (fun v w1 => if asI (fld s h 0) (nI j) = true then XP w (nI h) s n st ks kp tp tn bo so nu v w1 else XP w (-1000003) s n (bump st 2) ks kp tp tn bo so nu v w1) := by
  have R0 := R
  obtain ⟨x0, XR, ⟨sd, nd, XD⟩, ⟨sk, nk, XK, hkp⟩, XPl, XT, XS, x45, xl⟩ := R
  have r0 := XR.1
  have p0 := XPl.1
  have d0 := XD.1
  have hn : n ≤ 8 := XR.2.2.2.2.2.2.2
  have RC := R0
  show ab_H X kX5_as 0 [some (.ref 0), some (.int (nI k)), some (.int (nI j)), none] [] w _
  refine h_s rfl ?_
  refine h_k (y := 10) rfl rfl ?_
  refine h_c rfl (x_isBelow (nI k) 10 (by decide)) ?_
  refine h_t (y := 1) (by rw [inN_n (by decide) (by omega)]; rfl) ?_
  refine h_n (st2 := [_]) rfl ?_
  iterate 2 refine h_s rfl ?_
  refine h_c rfl (x_isKind (nI j)) ?_
  refine h_t (y := 1) (by rw [inN_n (by decide) (by omega)]; rfl) ?_
  refine h_n (st2 := [_]) rfl ?_
  iterate 2 refine h_s rfl ?_
  refine h_gf rfl rfl rfl x0 rfl ?_
  refine h_s rfl ?_
  refine h_gf rfl rfl rfl x0 rfl ?_
  refine h_gf rfl rfl rfl r0 rfl ?_
  refine h_s rfl ?_
  refine h_c rfl (x_cell (XR.2.2.1) (by rw [List.length_drop, XR.2.2.2.2.2.1]; decide) (j := k) (by rw [List.length_drop, XR.2.2.2.2.2.1]; omega)) ?_
  refine h_t (y := nI h) ((sp_g s k).trans hs) ?_
  refine h_n (st2 := [_, _]) rfl ?_
  refine h_cv rfl rfl rfl r0 rfl rfl (x_at XR hh) ?_
  refine h_n (st2 := [_]) rfl ?_
  iterate 5 refine h_s rfl ?_
  obtain ⟨kk, hk7, hk0⟩ := (I.1 h hh).1
  refine h_cv rfl rfl rfl (XR.2.2.2.1 h hh) rfl rfl (x_isOne (XR.2.2.2.1 h hh) hk7 hk0 hj) ?_
  refine h_n (st2 := [_]) rfl ?_
  refine hz_eq rfl rfl (fun h58 => ?_) (fun h58 => ?_)
  · refine h_s rfl ?_
    refine h_k (y := (-1000003)) rfl rfl ?_
    refine hq_v rfl rfl rfl x0 rfl rfl (x_found RC 2 (by omega) _ (by decide)) (fun v9 w9 q9 => ?_)
    obtain ⟨rfl, q2, q3⟩ := q9
    refine h_n (st2 := [_]) rfl ?_
    refine h_ri rfl rfl ?_
    rw [if_neg (by rw [h58]; decide)]
    exact ⟨rfl, q2, q3⟩
  · refine h_s rfl ?_
    refine h_gf rfl rfl rfl (XR.2.2.2.1 h hh) rfl ?_
    refine h_s rfl ?_
    refine h_ri rfl rfl ?_
    rw [if_pos h58]
    exact XP.same R0 _
set_option maxRecDepth 100000 in
set_option maxHeartbeats 4000000 in
theorem x_house_f (R : XW w s n st ks kp tp tn bo so nu) (k : Nat) (hk : k < 7) (hn8 : n = 8) : ab_Q X kX5_house [.ref 0, .int (nI k)] w (XP w (-1000002) s n (bump st 1) ks kp tp tn bo so nu) := by
  have R0 := R
  obtain ⟨x0, XR, ⟨sd, nd, XD⟩, ⟨sk, nk, XK, hkp⟩, XPl, XT, XS, x45, xl⟩ := R
  have r0 := XR.1
  have p0 := XPl.1
  have d0 := XD.1
  have hn : n ≤ 8 := XR.2.2.2.2.2.2.2
  have RC := R0
  show ab_H X kX5_house 0 [some (.ref 0), some (.int (nI k))] [] w _
  refine h_s rfl ?_
  refine h_c rfl (x_isKind (nI k)) ?_
  refine h_t (y := 1) (by rw [inN_n (by decide) (by omega)]; rfl) ?_
  refine h_n (st2 := [_]) rfl ?_
  iterate 2 refine h_s rfl ?_
  refine h_gf rfl rfl rfl x0 rfl ?_
  refine h_cv rfl rfl rfl r0 rfl rfl (x_isFull XR) ?_
  refine h_n (st2 := [_]) rfl ?_
  refine hd_eq rfl rfl (fun h21 => absurd (by omega) h21) (fun h21 => ?_)
  refine h_s rfl ?_
  refine h_k (y := (-1000002)) rfl rfl ?_
  refine hq_v rfl rfl rfl x0 rfl rfl (x_found RC 1 (by omega) _ (by decide)) (fun v9 w9 q9 => ?_)
  obtain ⟨rfl, q2, q3⟩ := q9
  refine h_n (st2 := [_]) rfl ?_
  exact h_ri rfl rfl ⟨rfl, q2, q3⟩
set_option maxRecDepth 100000 in
set_option maxHeartbeats 4000000 in
theorem x_house_k (R : XW w s n st ks kp tp tn bo so nu) (k : Nat) (hk : k < 7) (hn8 : n < 8) : ab_Q X kX5_house [.ref 0, .int (nI k)] w (XP w (nI n) (newS s n (nI k)) (n + 1) st ks kp tp tn bo so nu) := by
  have R0 := R
  obtain ⟨x0, XR, ⟨sd, nd, XD⟩, ⟨sk, nk, XK, hkp⟩, XPl, XT, XS, x45, xl⟩ := R
  have r0 := XR.1
  have p0 := XPl.1
  have d0 := XD.1
  have hn : n ≤ 8 := XR.2.2.2.2.2.2.2
  have RC := R0
  show ab_H X kX5_house 0 [some (.ref 0), some (.int (nI k))] [] w _
  refine h_s rfl ?_
  refine h_c rfl (x_isKind (nI k)) ?_
  refine h_t (y := 1) (by rw [inN_n (by decide) (by omega)]; rfl) ?_
  refine h_n (st2 := [_]) rfl ?_
  iterate 2 refine h_s rfl ?_
  refine h_gf rfl rfl rfl x0 rfl ?_
  refine h_cv rfl rfl rfl r0 rfl rfl (x_isFull XR) ?_
  refine h_n (st2 := [_]) rfl ?_
  refine hd_eq rfl rfl (fun h21 => ?_) (fun h21 => absurd h21 (by omega))
  refine h_s rfl ?_
  refine h_gf rfl rfl rfl x0 rfl ?_
  refine h_s rfl ?_
  refine hq_v rfl rfl rfl r0 rfl rfl (x_build XR hn8 (nI k)) (fun v1 w1 q1 => ?_)
  obtain ⟨rfl, XR1, f1⟩ := q1
  refine h_n (st2 := [_]) rfl ?_
  exact h_ri rfl rfl ⟨rfl, R0.row XR1 (fun i hi => f1 i (by omega)), fun i hi => f1 i (by omega)⟩
set_option maxRecDepth 100000 in
set_option maxHeartbeats 4000000 in
theorem x_shift_k (R : XW w s n st ks kp tp tn bo so nu) (I : SI s n) : ab_Q X kX5_shift [.ref 0] w (XP w (nI (offN (shiftS s n n) n 20)) (shiftS s n n) n st ks kp tp tn bo so nu) := by
  have R0 := R
  obtain ⟨x0, XR, ⟨sd, nd, XD⟩, ⟨sk, nk, XK, hkp⟩, XPl, XT, XS, x45, xl⟩ := R
  have r0 := XR.1
  have p0 := XPl.1
  have d0 := XD.1
  have hn : n ≤ 8 := XR.2.2.2.2.2.2.2
  have RC := R0
  show ab_H X kX5_shift 0 [some (.ref 0)] [] w _
  refine h_s rfl ?_
  refine h_gf rfl rfl rfl x0 rfl ?_
  have hl := XR.2.2.2.2.2.1
  have I1 := shift_SI I hl hn n (Nat.le_refl n)
  refine hq_v rfl rfl rfl r0 rfl rfl (x_shiftBeds XR I) (fun v1 w1 q1 => ?_)
  obtain ⟨rfl, XR1, f1⟩ := q1
  have RC1 := R0.row XR1 (fun i hi => f1 i (by omega))
  have x0 := (f1 0 (by decide)).trans x0
  have r0 := XR1.1
  have XPl := XPl.fr (w1 := w1) (fun i _ _ => f1 i (by omega))
  refine h_n (st2 := []) rfl ?_
  iterate 2 refine h_s rfl ?_
  refine h_gf rfl rfl rfl x0 rfl ?_
  refine h_k (y := 20) rfl rfl ?_
  refine hq_v rfl rfl rfl x0 rfl rfl (x_cutOff x0 XPl XR1 (by decide) (by decide) I1 20) (fun v2 w2 q2 => ?_)
  obtain ⟨rfl, XPl, f2⟩ := q2
  refine h_n (st2 := [_]) rfl ?_
  refine h_c rfl (x_bitsB (p := fun f => offB (shiftS s n n) n f 20) hn) ?_
  refine h_n (st2 := [_]) rfl ?_
  exact h_ri rfl rfl ⟨rfl, RC1.plan XPl f2, fun i hi => (f2 i (by omega)).trans (f1 i (by omega))⟩
end XO
