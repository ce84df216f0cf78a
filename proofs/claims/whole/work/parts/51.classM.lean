/-! THE CLASS: open; counts; images; calls that change the row -/
theorem partB_n {n : Nat} {j : Nat} {c : Int32} (hj : j < 8) (h : partB n (nI j) c = true) : j = 0 ∨ j = 3 ∨ j = 4 ∨ j = 6 ∨ j = 7 := by
  rcases (show j = 0 ∨ j = 1 ∨ j = 2 ∨ j = 3 ∨ j = 4 ∨ j = 5 ∨ j = 6 ∨ j = 7 by omega) with rfl | rfl | rfl | rfl | rfl | rfl | rfl | rfl <;> first | omega | (exact absurd h (by unfold partB; simp [show ¬ (nI 1 = 0) from by decide, show ¬ (nI 1 = 3) from by decide, show ¬ (nI 1 = 4) from by decide, show ¬ (nI 1 = 6) from by decide, show ¬ (nI 1 = 7) from by decide, show ¬ (nI 2 = 0) from by decide, show ¬ (nI 2 = 3) from by decide, show ¬ (nI 2 = 4) from by decide, show ¬ (nI 2 = 6) from by decide, show ¬ (nI 2 = 7) from by decide, show ¬ (nI 5 = 0) from by decide, show ¬ (nI 5 = 3) from by decide, show ¬ (nI 5 = 4) from by decide, show ¬ (nI 5 = 6) from by decide, show ¬ (nI 5 = 7) from by decide]))
theorem partB_out {n : Nat} {b c : Int32} (h : inN b 8 = false) : partB n b c = false := by
  have k : ∀ j, j < 8 → ¬ b = nI j := fun j hj e => by rw [e, inN_n (by omega) hj] at h; cases h
  unfold partB
  rw [if_neg (show ¬ b = 0 from k 0 (by decide)), if_neg (show ¬ (b = 3 ∨ b = 4) from fun q => q.elim (k 3 (by decide)) (k 4 (by decide))), if_neg (show ¬ b = 6 from k 6 (by decide)), show decide (b = 7) = false from decide_eq_false (k 7 (by decide)), Bool.false_and]
theorem sgn_n {j : Nat} (h : j < 2 ^ 31) : ¬ nI j < 0 := nI_pos h
section XN
variable {X : List Int32} {w w1 : ab_W} {r : Nat} {s : List Int32} {n : Nat} {st ks : List Int32} {kp : Bool} {tp : List Int32} {tn : Nat} {bo so nu : List Int32}
set_option maxRecDepth 100000 in
set_option maxHeartbeats 4000000 in
theorem x_open_k (R : XW w s n st ks kp tp tn bo so nu) (I : SI s n) (c : Nat) (hc : c < 24) (B : Int32 × Nat) (hB : bestD (fun d => !dB s d) (fun d => offN (s.set (66 + d) 1) n (nI c)) 14 = B) : ab_Q X kX5_open [.ref 0, .int (nI c)] w (fun v w1 => if B.1 < 0 then XP w (-1000004) s n (bump st 3) ks kp tp tn bo so nu v w1 else XP w B.1 s n st ks kp tp tn bo so nu v w1) := by
  have R0 := R
  obtain ⟨x0, XR, ⟨sd, nd, XD⟩, ⟨sk, nk, XK, hkp⟩, XPl, XT, XS, x45, xl⟩ := R
  have r0 := XR.1
  have p0 := XPl.1
  have d0 := XD.1
  have hn : n ≤ 8 := XR.2.2.2.2.2.2.2
  have RC := R0
  show ab_H X kX5_open 0 [some (.ref 0), some (.int (nI c)), none, none, none, none] [] w _
  refine h_s rfl ?_
  refine h_k (y := 24) rfl rfl ?_
  refine h_c rfl (x_isBelow (nI c) 24 (by decide)) ?_
  refine h_t (y := 1) (by rw [inN_n (by decide) (by omega)]; rfl) ?_
  refine h_n (st2 := [_]) rfl ?_
  iterate 2 refine h_s rfl ?_
  refine h_gf rfl rfl rfl x0 rfl ?_
  refine h_s rfl ?_
  refine h_gf rfl rfl rfl x0 rfl ?_
  refine hq_v rfl rfl rfl d0 rfl rfl (x_takeRow XR XD (by decide)) (fun v1 w1 q1 => ?_)
  obtain ⟨rfl, XD, f1⟩ := q1
  have x0 := (f1 0 (by decide)).trans x0
  have XR := XR.fr (w1 := w1) (fun i _ _ => f1 i (by omega))
  have r0 := XR.1
  have d0 := XD.1
  have XPl := XPl.fr (w1 := w1) (fun i _ _ => f1 i (by omega))
  refine h_n (st2 := []) rfl ?_
  refine h_k (y := 9) rfl rfl ?_
  refine h_s rfl ?_
  refine h_k (y := (-1)) rfl rfl ?_
  refine h_s rfl ?_
  refine h_k (y := 0) rfl rfl ?_
  refine h_s rfl ?_
  have hl := XR.2.2.2.2.2.1
  refine h_loop0 14 (fun i ls v => (∃ b lw cl x, bestD (fun d => !dB s d) (fun d => offN (s.set (66 + d) 1) n (nI c)) i = (b, lw) ∧ (b < 0 → cl = 9) ∧ (¬ b < 0 → cl = lw) ∧ cl ≤ 9 ∧ ls = [some (.ref 0), some (.int (nI c)), some (.int (nI cl)), some (.int b), some (.int (nI i)), x]) ∧ (∀ j, (j < 12 ∨ (23 ≤ j ∧ j < 34) ∨ 39 ≤ j) → v[j]? = w[j]?) ∧ RowW v 12 s n ∧ PlanX v) ⟨⟨-1, 0, 9, none, rfl, fun _ => rfl, fun q => absurd (by decide) q, by decide, rfl⟩, fun j hj => f1 j (by omega), XD, XPl⟩ (fun i ls v hi hJ ih => ?_) (fun ls v hJ => ?_)
  · obtain ⟨⟨b, lw, cl, x, hb, k1, k2, k3, rfl⟩, F, XD, XPl⟩ := hJ
    have x0 := (F 0 (by decide)).trans R0.1
    have XR := R0.2.1.fr (w1 := v) (fun j _ _ => F j (by omega))
    have r0 := XR.1
    have d0 := XD.1
    refine h_s rfl ?_
    refine h_k (y := 14) rfl rfl ?_
    refine hN_ge (b := 14) rfl rfl rfl rfl (by omega) (by omega) (fun h39 => absurd h39 (by omega)) (fun h39 => ?_)
    refine h_s rfl ?_
    refine h_gf rfl rfl rfl x0 rfl ?_
    refine h_s rfl ?_
    refine h_cv rfl rfl rfl r0 rfl rfl (x_isOpen XR (nI i)) ?_
    refine h_t (y := z01 (dB s i)) (by rw [inN_n (by omega) hi, nI_clamp (by omega), Bool.true_and]) ?_
    refine h_n (st2 := [_]) rfl ?_
    refine hz_ne rfl rfl (fun h51 => ?_) (fun h51 => ?_)
    · refine h_ii rfl rfl rfl ?_
      refine h_s rfl ?_
      have e : bestD (fun d => !dB s d) (fun d => offN (s.set (66 + d) 1) n (nI c)) (i + 1) = if (!dB s i) = true ∧ (b < 0 ∨ (offN (s.set (66 + i) 1) n (nI c)) < lw) then (nI i, (offN (s.set (66 + i) 1) n (nI c))) else (b, lw) := by
        show (if (!dB s i) = true ∧ ((bestD (fun d => !dB s d) (fun d => offN (s.set (66 + d) 1) n (nI c)) i).1 < 0 ∨ offN (s.set (66 + i) 1) n (nI c) < (bestD (fun d => !dB s d) (fun d => offN (s.set (66 + d) 1) n (nI c)) i).2) then (nI i, offN (s.set (66 + i) 1) n (nI c)) else bestD (fun d => !dB s d) (fun d => offN (s.set (66 + d) 1) n (nI c)) i) = _
        rw [hb]
      rw [if_neg (fun q => by rw [h51] at q; exact absurd q.1 (by decide))] at e
      exact ih _ _ ⟨⟨b, lw, cl, _, e, k1, k2, k3, rfl⟩, F, XD, XPl⟩
    · refine h_s rfl ?_
      refine h_gf rfl rfl rfl x0 rfl ?_
      refine h_s rfl ?_
      refine h_k (y := 1) rfl rfl ?_
      refine hq_v rfl rfl rfl d0 rfl rfl (x_setDoor XD hi true) (fun v2 w2 q2 => ?_)
      obtain ⟨rfl, XD, f2⟩ := q2
      have x0 := (f2 0 (by decide)).trans x0
      have XPl := XPl.fr (w1 := w2) (fun i _ _ => f2 i (by omega))
      have d0 := XD.1
      refine h_n (st2 := []) rfl ?_
      iterate 2 refine h_s rfl ?_
      refine h_gf rfl rfl rfl x0 rfl ?_
      refine h_s rfl ?_
      refine hq_v rfl rfl rfl x0 rfl rfl (x_cutOff x0 XPl XD (by decide) (by decide) (SI_door (b := true) I hl hn hi) (nI c)) (fun v3 w3 q3 => ?_)
      obtain ⟨rfl, XPl, f3⟩ := q3
      have x0 := (f3 0 (by decide)).trans x0
      have XD := XD.fr (w1 := w3) (fun j _ _ => f3 j (by omega))
      have d0 := XD.1
      refine h_n (st2 := [_]) rfl ?_
      refine h_c rfl (x_bitsB (p := fun f => offB (s.set (66 + i) (z01 true)) n f (nI c)) hn) ?_
      obtain ⟨W, hW⟩ : ∃ W, offN (s.set (66 + i) 1) n (nI c) = W := ⟨_, rfl⟩
      have hW8 : W ≤ 8 := by rw [← hW]; exact Nat.le_trans (offN_le ..) hn
      refine h_t (y := nI W) (by rw [← hW]; rfl) ?_
      refine h_n (st2 := [_]) rfl ?_
      iterate 2 refine h_s rfl ?_
      refine h_gf rfl rfl rfl x0 rfl ?_
      refine h_s rfl ?_
      refine h_k (y := 0) rfl rfl ?_
      refine hq_v rfl rfl rfl d0 rfl rfl (x_setDoor XD hi false) (fun v4 w4 q4 => ?_)
      obtain ⟨rfl, XD, f4⟩ := q4
      have x0 := (f4 0 (by decide)).trans x0
      have XPl := XPl.fr (w1 := w4) (fun i _ _ => f4 i (by omega))
      have XD : RowW w4 12 s n := by
        have e : (s.set (66 + i) (z01 true)).set (66 + i) (z01 false) = s := by
          obtain ⟨b, hb⟩ := I.2.1 i hi
          have hbf : b = false := by
            unfold dB at h51
            rw [hb] at h51
            cases b
            · rfl
            · exact absurd h51 (by decide)
          rw [show z01 false = s.getD (66 + i) 0 from by rw [hb, hbf]]
          exact set_back s (66 + i) (z01 true) (by omega)
        rw [e] at XD
        exact XD
      refine h_n (st2 := []) rfl ?_
      iterate 2 refine h_s rfl ?_
      refine hN_ge rfl rfl rfl rfl (by omega) (by omega) (fun h91 => ?_) (fun h91 => ?_)
      · refine h_ii rfl rfl rfl ?_
        refine h_s rfl ?_
        have e : bestD (fun d => !dB s d) (fun d => offN (s.set (66 + d) 1) n (nI c)) (i + 1) = if (!dB s i) = true ∧ (b < 0 ∨ W < lw) then (nI i, W) else (b, lw) := by
          show (if (!dB s i) = true ∧ ((bestD (fun d => !dB s d) (fun d => offN (s.set (66 + d) 1) n (nI c)) i).1 < 0 ∨ offN (s.set (66 + i) 1) n (nI c) < (bestD (fun d => !dB s d) (fun d => offN (s.set (66 + d) 1) n (nI c)) i).2) then (nI i, offN (s.set (66 + i) 1) n (nI c)) else bestD (fun d => !dB s d) (fun d => offN (s.set (66 + d) 1) n (nI c)) i) = _
          rw [hW, hb]
        rw [if_neg (fun q => by
          rcases q.2 with q | q
          · have := k1 q; omega
          · by_cases hb0 : b < 0
            · have := k1 hb0; omega
            · have := k2 hb0; omega)] at e
        exact ih _ _ ⟨⟨b, lw, cl, _, e, k1, k2, k3, rfl⟩, fun j hj => (f4 j (by omega)).trans ((f3 j (by omega)).trans ((f2 j (by omega)).trans (F j hj))), XD, XPl⟩
      · iterate 4 refine h_s rfl ?_
        refine h_ii rfl rfl rfl ?_
        refine h_s rfl ?_
        have e : bestD (fun d => !dB s d) (fun d => offN (s.set (66 + d) 1) n (nI c)) (i + 1) = if (!dB s i) = true ∧ (b < 0 ∨ W < lw) then (nI i, W) else (b, lw) := by
          show (if (!dB s i) = true ∧ ((bestD (fun d => !dB s d) (fun d => offN (s.set (66 + d) 1) n (nI c)) i).1 < 0 ∨ offN (s.set (66 + i) 1) n (nI c) < (bestD (fun d => !dB s d) (fun d => offN (s.set (66 + d) 1) n (nI c)) i).2) then (nI i, offN (s.set (66 + i) 1) n (nI c)) else bestD (fun d => !dB s d) (fun d => offN (s.set (66 + d) 1) n (nI c)) i) = _
          rw [hW, hb]
        rw [if_pos ⟨by rw [h51]; rfl, by
          by_cases hb0 : b < 0
          · exact Or.inl hb0
          · exact Or.inr (by have := k2 hb0; omega)⟩] at e
        exact ih _ _ ⟨⟨nI i, W, W, _, e, fun q => absurd q (nI_pos (by omega)), fun _ => rfl, by omega, rfl⟩, fun j hj => (f4 j (by omega)).trans ((f3 j (by omega)).trans ((f2 j (by omega)).trans (F j hj))), XD, XPl⟩
  · obtain ⟨⟨b, lw, cl, x, hb, k1, k2, k3, rfl⟩, F, XD, XPl⟩ := hJ
    have x0 := (F 0 (by decide)).trans R0.1
    have hBb : B.1 = b := by rw [← hB, hb]
    rw [hBb]
    have RC := R0.pd XD XPl F
    refine h_s rfl ?_
    refine h_k (y := 14) rfl rfl ?_
    refine hN_ge (b := 14) rfl rfl rfl rfl (by omega) (by omega) (fun h39 => ?_) (fun h39 => absurd (by omega) h39)
    refine h_s rfl ?_
    refine h1_ge rfl rfl (fun h107 => ?_) (fun h107 => ?_)
    · refine h_s rfl ?_
      refine h_ri rfl rfl ?_
      rw [if_neg (neg_n h107)]
      exact ⟨rfl, RC, fun i hi => F i (by omega)⟩
    · refine h_s rfl ?_
      refine h_k (y := (-1000004)) rfl rfl ?_
      refine hq_v rfl rfl rfl x0 rfl rfl (x_found RC 3 (by omega) _ (by decide)) (fun v9 w9 q9 => ?_)
      obtain ⟨rfl, q2, q3⟩ := q9
      refine h_n (st2 := [_]) rfl ?_
      refine h_s rfl ?_
      refine h_ri rfl rfl ?_
      rw [if_pos (neg_of h107)]
      exact ⟨rfl, q2, fun i hi => (q3 i hi).trans (F i (by omega))⟩
set_option maxRecDepth 100000 in
set_option maxHeartbeats 4000000 in
theorem x_count_k (R : XW w s n st ks kp tp tn bo so nu) (j : Nat) (hj : j < 7) : ab_Q X kX5_count [.ref 0, .int (nI j)] w (XP w (cntI s n tn (nI j)) s n st ks kp tp tn bo so nu) := by
  have R0 := R
  obtain ⟨x0, XR, ⟨sd, nd, XD⟩, ⟨sk, nk, XK, hkp⟩, XPl, XT, XS, x45, xl⟩ := R
  have r0 := XR.1
  have p0 := XPl.1
  have d0 := XD.1
  have hn : n ≤ 8 := XR.2.2.2.2.2.2.2
  have RC := R0
  show ab_H X kX5_count 0 [some (.ref 0), some (.int (nI j))] [] w _
  obtain ⟨tk, hr, XT1⟩ := XT.1
  rcases (show j = 0 ∨ j = 1 ∨ j = 2 ∨ j = 3 ∨ j = 4 ∨ j = 5 ∨ j = 6 by omega) with rfl | rfl | rfl | rfl | rfl | rfl | rfl
  · refine h_s rfl ?_
    refine h_Nsw (a := 0) rfl rfl (by decide) rfl rfl ?_
    refine h_s rfl ?_
    refine h_gf rfl rfl rfl x0 rfl ?_
    refine h_gf rfl rfl rfl r0 rfl ?_
    exact h_ri rfl rfl (XP.same R0 _)
  · refine h_s rfl ?_
    refine h_Nsw (a := 1) rfl rfl (by decide) rfl rfl ?_
    refine h_s rfl ?_
    refine h_gf rfl rfl rfl x0 rfl ?_
    refine h_gf rfl rfl rfl r0 rfl ?_
    refine h_c rfl (x_bits14 (p := dB s) (by decide)) ?_
    refine h_n (st2 := [_]) rfl ?_
    exact h_ri rfl rfl (XP.same R0 _)
  · refine h_s rfl ?_
    refine h_Nsw (a := 2) rfl rfl (by decide) rfl rfl ?_
    refine h_s rfl ?_
    refine h_gf rfl rfl rfl x0 rfl ?_
    refine h_cv rfl rfl rfl r0 rfl rfl (x_countStairs XR) ?_
    refine h_n (st2 := [_]) rfl ?_
    exact h_ri rfl rfl (XP.same R0 _)
  · refine h_s rfl ?_
    refine h_Nsw (a := 3) rfl rfl (by decide) rfl rfl ?_
    refine h_s rfl ?_
    refine h_gf rfl rfl rfl x0 rfl ?_
    refine h_cv rfl rfl rfl r0 rfl rfl (x_countSleepers XR) ?_
    refine h_n (st2 := [_]) rfl ?_
    exact h_ri rfl rfl (XP.same R0 _)
  · refine h_s rfl ?_
    refine h_Nsw (a := 4) rfl rfl (by decide) rfl rfl ?_
    refine h_s rfl ?_
    refine h_gf rfl rfl rfl x0 rfl ?_
    refine h_gf rfl rfl rfl XT1 rfl ?_
    exact h_ri rfl rfl (XP.same R0 _)
  · refine h_s rfl ?_
    refine h_Nsw (a := 5) rfl rfl (by decide) rfl rfl ?_
    refine h_s rfl ?_
    refine h_gf rfl rfl rfl x0 rfl ?_
    refine h_gf rfl rfl rfl r0 rfl ?_
    exact h_ri rfl rfl (XP.same R0 _)
  · refine h_s rfl ?_
    refine h_Nsw (a := 6) rfl rfl (by decide) rfl rfl ?_
    refine h_s rfl ?_
    refine h_gf rfl rfl rfl x0 rfl ?_
    refine h_cv rfl rfl rfl r0 rfl rfl (x_countHeld XR) ?_
    refine h_n (st2 := [_]) rfl ?_
    exact h_ri rfl rfl (XP.same R0 _)
set_option maxRecDepth 100000 in
set_option maxHeartbeats 4000000 in
theorem x_count_b (R : XW w s n st ks kp tp tn bo so nu) (a : Int32) (hb : inN a 7 = false) : ab_Q X kX5_count [.ref 0, .int a] w (XP w (-1000001) s n (bump st 0) ks kp tp tn bo so nu) := by
  have R0 := R
  obtain ⟨x0, XR, ⟨sd, nd, XD⟩, ⟨sk, nk, XK, hkp⟩, XPl, XT, XS, x45, xl⟩ := R
  have r0 := XR.1
  have p0 := XPl.1
  have d0 := XD.1
  have hn : n ≤ 8 := XR.2.2.2.2.2.2.2
  have RC := R0
  show ab_H X kX5_count 0 [some (.ref 0), some (.int a)] [] w _
  refine h_s rfl ?_
  refine h_swd rfl (sw_out (m := 7) rfl hb) rfl ?_
  refine h_s rfl ?_
  refine h_k (y := (-1000001)) rfl rfl ?_
  refine hq_v rfl rfl rfl x0 rfl rfl (x_found RC 0 (by omega) _ (by decide)) (fun v9 w9 q9 => ?_)
  obtain ⟨rfl, q2, q3⟩ := q9
  refine h_n (st2 := [_]) rfl ?_
  exact h_ri rfl rfl ⟨rfl, q2, q3⟩
set_option maxRecDepth 100000 in
set_option maxHeartbeats 4000000 in
theorem x_status_b (R : XW w s n st ks kp tp tn bo so nu) (a : Int32) (hb : (decide (-1 ≤ a.toInt ∧ a.toInt ≤ 6)) = false)  : ab_Q X kX5_status [.ref 0, .int a] w (XP w (-1000001) s n (bump st 0) ks kp tp tn bo so nu) := by
  have R0 := R
  obtain ⟨x0, XR, ⟨sd, nd, XD⟩, ⟨sk, nk, XK, hkp⟩, XPl, XT, XS, x45, xl⟩ := R
  have r0 := XR.1
  have p0 := XPl.1
  have d0 := XD.1
  have hn : n ≤ 8 := XR.2.2.2.2.2.2.2
  have RC := R0
  show ab_H X kX5_status 0 [some (.ref 0), some (.int a), none, none] [] w _
  refine h_s rfl ?_
  refine h_k (y := (-1)) rfl rfl ?_
  refine h2_lt rfl rfl (fun h2 => ?_) (fun h2 => ?_)
  · refine h_s rfl ?_
    refine h_k (y := (-1000001)) rfl rfl ?_
    refine hq_v rfl rfl rfl x0 rfl rfl (x_found RC 0 (by omega) _ (by decide)) (fun v9 w9 q9 => ?_)
    obtain ⟨rfl, q2, q3⟩ := q9
    refine h_n (st2 := [_]) rfl ?_
    exact h_ri rfl rfl ⟨rfl, q2, q3⟩
  · refine h_s rfl ?_
    refine h_k (y := 7) rfl rfl ?_
    refine h2_lt rfl rfl (fun h8 => ?_) (fun h8 => ?_)
    · rw [lt_iff] at h2 h8
      have h2 : ¬ a.toInt < -1 := h2
      have h8 : a.toInt < 7 := h8
      have hv : -1 ≤ a.toInt ∧ a.toInt ≤ 6 := by omega
      exact absurd hb (by rw [decide_eq_true hv]; decide)
    · refine h_s rfl ?_
      refine h_k (y := (-1000001)) rfl rfl ?_
      refine hq_v rfl rfl rfl x0 rfl rfl (x_found RC 0 (by omega) _ (by decide)) (fun v9 w9 q9 => ?_)
      obtain ⟨rfl, q2, q3⟩ := q9
      refine h_n (st2 := [_]) rfl ?_
      exact h_ri rfl rfl ⟨rfl, q2, q3⟩
theorem stat_m (st : List Int32) (i : Nat) : statI st (-1) i = st.getD i 0 := by
  unfold statI
  rw [if_pos (Or.inl (by decide))]
theorem stat_k (st : List Int32) {k : Nat} (hk : k < 7) : sumI (statI st (nI k)) 7 = st.getD k 0 := by
  have e : ∀ j, j < 7 → statI st (nI k) j = if j = k then st.getD k 0 else 0 := fun j hj => by
    unfold statI
    by_cases h : j = k
    · rw [if_pos (Or.inr (by rw [h])), if_pos h, h]
    · rw [if_neg (fun q => q.elim (nI_pos (by omega)) (fun q => h ((nI_eq (by omega) (by omega)).mp q))), if_neg h]
  have z : ∀ x : Int32, 0 + x = x := fun x => by simp
  rw [sumI_cong e]
  show 0 + _ + _ + _ + _ + _ + _ + _ = _
  rcases (show k = 0 ∨ k = 1 ∨ k = 2 ∨ k = 3 ∨ k = 4 ∨ k = 5 ∨ k = 6 by omega) with rfl | rfl | rfl | rfl | rfl | rfl | rfl <;> simp
set_option maxRecDepth 100000 in
set_option maxHeartbeats 4000000 in
theorem x_status_n (R : XW w s n st ks kp tp tn bo so nu) (k : Nat) (hk : k < 7) : ab_Q X kX5_status [.ref 0, .int (nI k)] w (XP w (sumI (statI st (nI k)) 7) s n st ks kp tp tn bo so nu) := by
  have R0 := R
  obtain ⟨x0, XR, ⟨sd, nd, XD⟩, ⟨sk, nk, XK, hkp⟩, XPl, XT, XS, x45, xl⟩ := R
  have r0 := XR.1
  have p0 := XPl.1
  have d0 := XD.1
  have hn : n ≤ 8 := XR.2.2.2.2.2.2.2
  have RC := R0
  show ab_H X kX5_status 0 [some (.ref 0), some (.int (nI k)), none, none] [] w _
  refine h_s rfl ?_
  refine h_k (y := (-1)) rfl rfl ?_
  refine h2_lt rfl rfl (fun h2 => absurd h2 (by rw [lt_iff, nI_toInt (by omega)]; exact fun q => by have : ((-1 : Int32).toInt) = -1 := rfl; omega)) (fun h2 => ?_)
  refine h_s rfl ?_
  refine h_k (y := 7) rfl rfl ?_
  refine hN_lt (b := 7) rfl rfl rfl rfl (by omega) (by omega) (fun h8 => ?_) (fun h8 => absurd (hk) h8)
  refine h_s rfl ?_
  refine hM_lt rfl rfl rfl rfl (by omega) (fun h19 => absurd h19 (by omega)) (fun h19 => ?_)
  refine h_s rfl ?_
  refine h_gf rfl rfl rfl x0 rfl ?_
  refine h_s rfl ?_
  refine h_c rfl (x_cell x45 (by omega) (j := k) (by omega)) ?_
  refine h_n (st2 := [_]) rfl ?_
  rw [stat_k st hk]
  exact h_ri rfl rfl (XP.same R0 _)
set_option maxRecDepth 100000 in
set_option maxHeartbeats 4000000 in
theorem x_status_m (R : XW w s n st ks kp tp tn bo so nu)  : ab_Q X kX5_status [.ref 0, .int (-1)] w (XP w (sumI (statI st (-1)) 7) s n st ks kp tp tn bo so nu) := by
  have R0 := R
  obtain ⟨x0, XR, ⟨sd, nd, XD⟩, ⟨sk, nk, XK, hkp⟩, XPl, XT, XS, x45, xl⟩ := R
  have r0 := XR.1
  have p0 := XPl.1
  have d0 := XD.1
  have hn : n ≤ 8 := XR.2.2.2.2.2.2.2
  have RC := R0
  show ab_H X kX5_status 0 [some (.ref 0), some (.int (-1)), none, none] [] w _
  refine h_s rfl ?_
  refine h_k (y := (-1)) rfl rfl ?_
  iterate 2 refine h_s rfl ?_
  refine h_k (y := 7) rfl rfl ?_
  iterate 3 refine h_s rfl ?_
  refine h_k (y := 0) rfl rfl ?_
  refine h_s rfl ?_
  refine h_k (y := 0) rfl rfl ?_
  refine h_s rfl ?_
  refine h_loop0 7 (fun i ls v => v = w ∧ ls = [some (.ref 0), some (.int (-1)), some (.int (sumI (statI st (-1)) i)), some (.int (nI i))]) ⟨rfl, rfl⟩ (fun i ls v hi hJ ih => ?_) (fun ls v hJ => ?_)
  · obtain ⟨rfl, rfl⟩ := hJ
    iterate 2 refine h_s rfl ?_
    refine h_gf rfl rfl rfl x0 rfl ?_
    refine h_al (x := 7) rfl x45 (by rw [xl]; rfl) ?_
    refine hN_ge (b := 7) rfl rfl rfl rfl (by omega) (by omega) (fun h41 => absurd h41 (by omega)) (fun h41 => ?_)
    iterate 2 refine h_s rfl ?_
    refine h_gf rfl rfl rfl x0 rfl ?_
    refine h_s rfl ?_
    refine h_ia i rfl x45 (by omega) rfl (by omega) ?_
    iterate 2 refine h_s rfl ?_
    refine h_ii rfl rfl rfl ?_
    refine h_s rfl ?_
    exact ih _ _ ⟨rfl, by rw [sumI, stat_m]; rfl⟩
  · obtain ⟨rfl, rfl⟩ := hJ
    iterate 2 refine h_s rfl ?_
    refine h_gf rfl rfl rfl x0 rfl ?_
    refine h_al (x := 7) rfl x45 (by rw [xl]; rfl) ?_
    refine hN_ge (b := 7) rfl rfl rfl rfl (by omega) (by omega) (fun h41 => ?_) (fun h41 => absurd (by omega) h41)
    refine h_s rfl ?_
    exact h_ri rfl rfl (XP.same R0 _)
theorem XW.keep (R : XW w s n st ks kp tp tn bo so nu) {ks1 : List Int32} {kp1 : Bool} (x0 : w1[0]? = some (.inl (5, xObj kp1))) (K : ∃ s' n', RowW w1 23 s' n' ∧ (kp1 = true → s' = ks1)) (F : ∀ i, (1 ≤ i ∧ (i < 23 ∨ 34 ≤ i)) → w1[i]? = w[i]?) : XW w1 s n st ks1 kp1 tp tn bo so nu := by
  obtain ⟨-, XR, ⟨sd, nd, XD⟩, -, XPl, XT, XS, x45, xl⟩ := R
  exact ⟨x0, XR.fr (fun i _ _ => F i (by omega)), ⟨sd, nd, XD.fr (fun i _ _ => F i (by omega))⟩, K, XPl.fr (fun i _ _ => F i (by omega)), XT.fr (fun i _ _ => F i (by omega)), XS.fr (fun i _ _ _ => F i (by omega)), (F 45 (by omega)).trans x45, xl⟩
set_option maxRecDepth 100000 in
set_option maxHeartbeats 4000000 in
theorem x_image (R : XW w s n st ks kp tp tn bo so nu)  : ab_Q X kX5_image [.ref 0] w (XP w 1 s n st s true tp tn bo so nu) := by
  have R0 := R
  obtain ⟨x0, XR, ⟨sd, nd, XD⟩, ⟨sk, nk, XK, hkp⟩, XPl, XT, XS, x45, xl⟩ := R
  have r0 := XR.1
  have p0 := XPl.1
  have d0 := XD.1
  have hn : n ≤ 8 := XR.2.2.2.2.2.2.2
  have RC := R0
  have k0 := XK.1
  show ab_H X kX5_image 0 [some (.ref 0)] [] w _
  refine h_s rfl ?_
  refine h_gf rfl rfl rfl x0 rfl ?_
  refine h_s rfl ?_
  refine h_gf rfl rfl rfl x0 rfl ?_
  refine hq_v rfl rfl rfl k0 rfl rfl (x_takeRow XR XK (by decide)) (fun v1 w1 q1 => ?_)
  obtain ⟨rfl, XK, f1⟩ := q1
  have x0 := (f1 0 (by decide)).trans x0
  refine h_n (st2 := []) rfl ?_
  refine h_s rfl ?_
  refine h_k (y := 1) rfl rfl ?_
  refine h_pf rfl rfl x0 rfl (fun w2 e2 f2 => ?_)
  refine h_k (y := 1) rfl rfl ?_
  exact h_ri rfl rfl ⟨rfl, R0.keep e2 ⟨_, _, XK.fr (fun i _ _ => f2 i (by omega)), fun _ => rfl⟩ (fun i hi => (f2 i (by omega)).trans (f1 i (by omega))), fun i hi => (f2 i (by omega)).trans (f1 i (by omega))⟩
set_option maxRecDepth 100000 in
set_option maxHeartbeats 4000000 in
theorem x_undo_k (R : XW w s n st ks kp tp tn bo so nu) (m : Nat) (hk : kp = true) (ho0 : ks.getD 0 0 = nI m) (hm : m ≤ 8) : ab_Q X kX5_undo [.ref 0] w (XP w (nI m) ks m st ks kp tp tn bo so nu) := by
  have R0 := R
  obtain ⟨x0, XR, ⟨sd, nd, XD⟩, ⟨sk, nk, XK, hkp⟩, XPl, XT, XS, x45, xl⟩ := R
  have r0 := XR.1
  have p0 := XPl.1
  have d0 := XD.1
  have hn : n ≤ 8 := XR.2.2.2.2.2.2.2
  have RC := R0
  have k0 := XK.1
  have hks := hkp hk
  have hnk : nk = m := (nI_eq (by have := XK.2.2.2.2.2.2.2; omega) (by omega)).mp (by rw [← XK.2.2.2.2.2.2.1, hks]; exact ho0)
  subst hks
  subst hnk
  show ab_H X kX5_undo 0 [some (.ref 0)] [] w _
  refine h_s rfl ?_
  refine h_gf rfl rfl rfl x0 rfl ?_
  refine hz_ne rfl rfl (fun h4 => ?_) (fun h4 => absurd (show (true = false) from (show _ = true from hk).symm.trans h4) (by decide))
  refine h_s rfl ?_
  refine h_gf rfl rfl rfl x0 rfl ?_
  refine h_s rfl ?_
  refine h_gf rfl rfl rfl x0 rfl ?_
  refine hq_v rfl rfl rfl r0 rfl rfl (x_takeRow XK XR (by decide)) (fun v1 w1 q1 => ?_)
  obtain ⟨rfl, XR, f1⟩ := q1
  have x0 := (f1 0 (by decide)).trans x0
  have r0 := XR.1
  refine h_n (st2 := []) rfl ?_
  refine h_s rfl ?_
  refine h_gf rfl rfl rfl x0 rfl ?_
  refine h_gf rfl rfl rfl r0 rfl ?_
  exact h_ri rfl rfl ⟨rfl, R0.row XR (fun i hi => f1 i (by omega)), fun i hi => f1 i (by omega)⟩
set_option maxRecDepth 100000 in
set_option maxHeartbeats 4000000 in
theorem x_undo_n (R : XW w s n st ks kp tp tn bo so nu) (hk : kp = false) : ab_Q X kX5_undo [.ref 0] w (XP w (-1000004) s n (bump st 3) ks kp tp tn bo so nu) := by
  have R0 := R
  obtain ⟨x0, XR, ⟨sd, nd, XD⟩, ⟨sk, nk, XK, hkp⟩, XPl, XT, XS, x45, xl⟩ := R
  have r0 := XR.1
  have p0 := XPl.1
  have d0 := XD.1
  have hn : n ≤ 8 := XR.2.2.2.2.2.2.2
  have RC := R0
  show ab_H X kX5_undo 0 [some (.ref 0)] [] w _
  refine h_s rfl ?_
  refine h_gf rfl rfl rfl x0 rfl ?_
  refine hz_ne rfl rfl (fun h4 => absurd (show (true = false) from h4.symm.trans (show _ = false from hk)) (by decide)) (fun h4 => ?_)
  refine h_s rfl ?_
  refine h_k (y := (-1000004)) rfl rfl ?_
  refine hq_v rfl rfl rfl x0 rfl rfl (x_found RC 3 (by omega) _ (by decide)) (fun v9 w9 q9 => ?_)
  obtain ⟨rfl, q2, q3⟩ := q9
  refine h_n (st2 := [_]) rfl ?_
  exact h_ri rfl rfl ⟨rfl, q2, q3⟩
set_option maxRecDepth 100000 in
set_option maxHeartbeats 4000000 in
theorem x_tear_k (R : XW w s n st ks kp tp tn bo so nu)  : ab_Q X kX5_tear [.ref 0] w (XP w (z01 kp) s n st ks false tp tn bo so nu) := by
  have R0 := R
  obtain ⟨x0, XR, ⟨sd, nd, XD⟩, ⟨sk, nk, XK, hkp⟩, XPl, XT, XS, x45, xl⟩ := R
  have r0 := XR.1
  have p0 := XPl.1
  have d0 := XD.1
  have hn : n ≤ 8 := XR.2.2.2.2.2.2.2
  have RC := R0
  show ab_H X kX5_tear 0 [some (.ref 0), none] [] w _
  refine h_s rfl ?_
  refine h_gf rfl rfl rfl x0 rfl ?_
  refine hz_eq rfl rfl (fun h4 => ?_) (fun h4 => ?_)
  · refine h_k (y := 0) rfl rfl ?_
    iterate 2 refine h_s rfl ?_
    refine h_k (y := 0) rfl rfl ?_
    refine h_pf rfl rfl x0 rfl (fun w2 e2 f2 => ?_)
    refine h_s rfl ?_
    exact h_ri rfl rfl ⟨by rw [h4]; rfl, R0.keep e2 ⟨sk, nk, XK.fr (fun i _ _ => f2 i (by omega)), fun h => by cases h⟩ (fun i hi => f2 i (by omega)), fun i hi => f2 i (by omega)⟩
  · refine h_k (y := 1) rfl rfl ?_
    iterate 3 refine h_s rfl ?_
    refine h_k (y := 0) rfl rfl ?_
    refine h_pf rfl rfl x0 rfl (fun w2 e2 f2 => ?_)
    refine h_s rfl ?_
    exact h_ri rfl rfl ⟨by rw [h4]; rfl, R0.keep e2 ⟨sk, nk, XK.fr (fun i _ _ => f2 i (by omega)), fun h => by cases h⟩ (fun i hi => f2 i (by omega)), fun i hi => f2 i (by omega)⟩
end XN
