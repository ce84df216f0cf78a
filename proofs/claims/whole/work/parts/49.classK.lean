/-! THE CLASS: calls that only tell -/
section XL
variable {X : List Int32} {w w1 : ab_W} {r : Nat} {s : List Int32} {n : Nat} {st ks : List Int32} {kp : Bool} {tp : List Int32} {tn : Nat} {bo so nu : List Int32}
set_option maxRecDepth 100000 in
set_option maxHeartbeats 4000000 in
theorem x_of_k (R : XW w s n st ks kp tp tn bo so nu) (h k : Nat) (hh : h < n) (hk : k < 8) : ab_Q X kX5_of [.ref 0, .int (nI h), .int (nI k)] w (XP w (fld s h k) s n st ks kp tp tn bo so nu) := by
  have R0 := R
  obtain ⟨x0, XR, ⟨sd, nd, XD⟩, ⟨sk, nk, XK, hkp⟩, XPl, XT, XS, x45, xl⟩ := R
  have r0 := XR.1
  have p0 := XPl.1
  have d0 := XD.1
  have hn : n ≤ 8 := XR.2.2.2.2.2.2.2
  have RC := R0
  show ab_H X kX5_of 0 [some (.ref 0), some (.int (nI h)), some (.int (nI k)), none] [] w _
  refine h_s rfl ?_
  refine h_gf rfl rfl rfl x0 rfl ?_
  refine h_s rfl ?_
  refine h_cv rfl rfl rfl r0 rfl rfl (x_at XR hh) ?_
  refine h_n (st2 := [_]) rfl ?_
  iterate 4 refine h_s rfl ?_
  refine hM_lt rfl rfl rfl rfl (by omega) (fun h14 => absurd h14 (by omega)) (fun h14 => ?_)
  refine h_s rfl ?_
  refine h_k (y := 7) rfl rfl ?_
  refine hN_le (b := 7) rfl rfl rfl rfl (by omega) (by omega) (fun h20 => ?_) (fun h20 => absurd (by omega) h20)
  iterate 2 refine h_s rfl ?_
  refine h_cv rfl rfl rfl (XR.2.2.2.1 h hh) rfl rfl (x_tell (XR.2.2.2.1 h hh) hk) ?_
  refine h_n (st2 := [_]) rfl ?_
  exact h_ri rfl rfl (XP.same R0 _)
set_option maxRecDepth 100000 in
set_option maxHeartbeats 4000000 in
theorem x_lets_k (R : XW w s n st ks kp tp tn bo so nu) (I : SI s n) (h f c : Nat) (hh : h < n) (hf : f < n) (hc : c < 24) : ab_Q X kX5_lets [.ref 0, .int (nI h), .int (nI f), .int (nI c)] w (XP w (z01 (letB s h f (nI c))) s n st ks kp tp tn bo so nu) := by
  have R0 := R
  obtain ⟨x0, XR, ⟨sd, nd, XD⟩, ⟨sk, nk, XK, hkp⟩, XPl, XT, XS, x45, xl⟩ := R
  have r0 := XR.1
  have p0 := XPl.1
  have d0 := XD.1
  have hn : n ≤ 8 := XR.2.2.2.2.2.2.2
  have RC := R0
  show ab_H X kX5_lets 0 [some (.ref 0), some (.int (nI h)), some (.int (nI f)), some (.int (nI c)), none] [] w _
  refine h_s rfl ?_
  refine h_gf rfl rfl rfl x0 rfl ?_
  refine h_s rfl ?_
  refine h_cv rfl rfl rfl r0 rfl rfl (x_at XR hh) ?_
  refine h_n (st2 := [_]) rfl ?_
  iterate 6 refine h_s rfl ?_
  refine h_cv rfl rfl rfl x0 rfl rfl (x_isVisit x0 XR (nI f) (nI c)) ?_
  refine h_t (y := 1) (by rw [inN_n (by omega) (by omega), inN_n (by omega) (by omega)]; rfl) ?_
  refine h_n (st2 := [_]) rfl ?_
  iterate 5 refine h_s rfl ?_
  refine h_gf rfl rfl rfl (XR.2.2.2.1 _ (by omega)) rfl ?_
  obtain ⟨kk, hk7, hk⟩ := (I.1 h hh).1
  refine h_cv rfl rfl rfl (XR.2.2.2.1 h hh) rfl rfl (x_admits (XR.2.2.2.1 h hh) (show f < 8 by omega) (by omega) hk7 hk (nI c) (fld s h 2)) ?_
  refine h_n (st2 := [_]) rfl ?_
  refine hz_eq rfl rfl (fun h43 => ?_) (fun h43 => ?_)
  · refine h_k (y := 0) rfl rfl ?_
    rw [letV_B] at h43
    rw [h43]
    exact h_ri rfl rfl (XP.same R0 _)
  · refine h_k (y := 1) rfl rfl ?_
    refine h_s rfl ?_
    rw [letV_B] at h43
    rw [h43]
    exact h_ri rfl rfl (XP.same R0 _)
set_option maxRecDepth 100000 in
set_option maxHeartbeats 4000000 in
theorem x_letting_k (R : XW w s n st ks kp tp tn bo so nu) (I : SI s n) (f c : Nat) (hf : f < n) (hc : c < 24) : ab_Q X kX5_letting [.ref 0, .int (nI f), .int (nI c)] w (XP w (bs (fun h => letB s h f (nI c)) n) s n st ks kp tp tn bo so nu) := by
  have R0 := R
  obtain ⟨x0, XR, ⟨sd, nd, XD⟩, ⟨sk, nk, XK, hkp⟩, XPl, XT, XS, x45, xl⟩ := R
  have r0 := XR.1
  have p0 := XPl.1
  have d0 := XD.1
  have hn : n ≤ 8 := XR.2.2.2.2.2.2.2
  have RC := R0
  show ab_H X kX5_letting 0 [some (.ref 0), some (.int (nI f)), some (.int (nI c))] [] w _
  iterate 3 refine h_s rfl ?_
  refine h_cv rfl rfl rfl x0 rfl rfl (x_isVisit x0 XR (nI f) (nI c)) ?_
  refine h_t (y := 1) (by rw [inN_n (by omega) (by omega), inN_n (by omega) (by omega)]; rfl) ?_
  refine h_n (st2 := [_]) rfl ?_
  iterate 2 refine h_s rfl ?_
  refine h_gf rfl rfl rfl x0 rfl ?_
  iterate 2 refine h_s rfl ?_
  refine h_k (y := 0) rfl rfl ?_
  refine h_k (y := 0) rfl rfl ?_
  refine h_cv rfl rfl rfl r0 rfl rfl (x_admitting XR I (show f < 8 by omega) (nI c) 0 0) ?_
  refine h_t (bs_cong (q := fun h => letB s h f (nI c)) (fun i _ => by rw [lvG_00, letV_B])) ?_
  refine h_n (st2 := [_]) rfl ?_
  exact h_ri rfl rfl (XP.same R0 _)
set_option maxRecDepth 100000 in
set_option maxHeartbeats 4000000 in
theorem x_joined_k (R : XW w s n st ks kp tp tn bo so nu) (I : SI s n) (m : Nat) (hm : m < 2 * n) : ab_Q X kX5_joined [.ref 0, .int (nI m)] w (XP w (bs (adjB s n m) 16) s n st ks kp tp tn bo so nu) := by
  have R0 := R
  obtain ⟨x0, XR, ⟨sd, nd, XD⟩, ⟨sk, nk, XK, hkp⟩, XPl, XT, XS, x45, xl⟩ := R
  have r0 := XR.1
  have p0 := XPl.1
  have d0 := XD.1
  have hn : n ≤ 8 := XR.2.2.2.2.2.2.2
  have RC := R0
  show ab_H X kX5_joined 0 [some (.ref 0), some (.int (nI m))] [] w _
  refine h_s rfl ?_
  refine h_gf rfl rfl rfl x0 rfl ?_
  refine h_s rfl ?_
  refine h_cv rfl rfl rfl r0 rfl rfl (x_hasRoom XR (nI m)) ?_
  refine h_t (y := 1) (by rw [inN_n (by omega) (by omega)]; rfl) ?_
  refine h_n (st2 := [_]) rfl ?_
  iterate 2 refine h_s rfl ?_
  refine h_gf rfl rfl rfl x0 rfl ?_
  refine h_s rfl ?_
  refine h_cv rfl rfl rfl r0 rfl rfl (x_besides XR I hm) ?_
  refine h_n (st2 := [_]) rfl ?_
  exact h_ri rfl rfl (XP.same R0 _)
set_option maxRecDepth 100000 in
set_option maxHeartbeats 4000000 in
theorem x_reach_k (R : XW w s n st ks kp tp tn bo so nu) (I : SI s n) (f c : Nat) (hf : f < n) (hc : c < 24) : ab_Q X kX5_reach [.ref 0, .int (nI f), .int (nI c)] w (XP w (bs (wB (adjB s n) (opB s n f (nI c)) (gB n) 16) 16) s n st ks kp tp tn bo so nu) := by
  have R0 := R
  obtain ⟨x0, XR, ⟨sd, nd, XD⟩, ⟨sk, nk, XK, hkp⟩, XPl, XT, XS, x45, xl⟩ := R
  have r0 := XR.1
  have p0 := XPl.1
  have d0 := XD.1
  have hn : n ≤ 8 := XR.2.2.2.2.2.2.2
  have RC := R0
  show ab_H X kX5_reach 0 [some (.ref 0), some (.int (nI f)), some (.int (nI c))] [] w _
  iterate 3 refine h_s rfl ?_
  refine h_cv rfl rfl rfl x0 rfl rfl (x_isVisit x0 XR (nI f) (nI c)) ?_
  refine h_t (y := 1) (by rw [inN_n (by omega) (by omega), inN_n (by omega) (by omega)]; rfl) ?_
  refine h_n (st2 := [_]) rfl ?_
  iterate 2 refine h_s rfl ?_
  refine h_gf rfl rfl rfl x0 rfl ?_
  refine h_s rfl ?_
  refine h_gf rfl rfl rfl x0 rfl ?_
  refine hq_v rfl rfl rfl p0 rfl rfl (x_draw XPl XR I (by omega)) (fun v1 w1 q1 => ?_)
  obtain ⟨rfl, PJ, f1⟩ := q1
  have G : ∀ i, (i < 34 ∨ 39 ≤ i) → w1[i]? = w[i]? := fun i hi => f1 i (by omega)
  have x0 := (G 0 (by decide)).trans x0
  have XR := XR.fr (w1 := w1) (fun i _ _ => G i (by omega))
  have r0 := XR.1
  have p0 := PJ.1
  refine h_n (st2 := []) rfl ?_
  refine h_s rfl ?_
  refine h_gf rfl rfl rfl x0 rfl ?_
  refine h_s rfl ?_
  refine h_gf rfl rfl rfl x0 rfl ?_
  iterate 2 refine h_s rfl ?_
  refine h_k (y := 0) rfl rfl ?_
  refine h_k (y := 0) rfl rfl ?_
  refine h_cv rfl rfl rfl r0 rfl rfl (x_lett XR I (show f < 8 by omega) (nI c)) ?_
  refine h_n (st2 := [_, _]) rfl ?_
  refine h_cv rfl rfl rfl p0 rfl rfl (x_reachable PJ (lqB s n f (nI c))) ?_
  refine h_t (bs_cong (fun i _ => wB_cong (fun i hi => ev_gB hn (by unfold lqB at hi; simp at hi; exact hi.1)) 16 i)) ?_
  refine h_n (st2 := [_]) rfl ?_
  exact h_ri rfl rfl ⟨rfl, R0.plan PJ.x G, fun i hi => G i (by omega)⟩
set_option maxRecDepth 100000 in
set_option maxHeartbeats 4000000 in
theorem x_off_k (R : XW w s n st ks kp tp tn bo so nu) (I : SI s n) (c : Nat) (hc : c < 24) : ab_Q X kX5_off [.ref 0, .int (nI c)] w (XP w (bs (fun f => offB s n f (nI c)) n) s n st ks kp tp tn bo so nu) := by
  have R0 := R
  obtain ⟨x0, XR, ⟨sd, nd, XD⟩, ⟨sk, nk, XK, hkp⟩, XPl, XT, XS, x45, xl⟩ := R
  have r0 := XR.1
  have p0 := XPl.1
  have d0 := XD.1
  have hn : n ≤ 8 := XR.2.2.2.2.2.2.2
  have RC := R0
  show ab_H X kX5_off 0 [some (.ref 0), some (.int (nI c))] [] w _
  refine h_s rfl ?_
  refine h_k (y := 24) rfl rfl ?_
  refine h_c rfl (x_isBelow (nI c) 24 (by decide)) ?_
  refine h_t (y := 1) (by rw [inN_n (by decide) (by omega)]; rfl) ?_
  refine h_n (st2 := [_]) rfl ?_
  iterate 3 refine h_s rfl ?_
  refine h_gf rfl rfl rfl x0 rfl ?_
  refine h_s rfl ?_
  refine hq_v rfl rfl rfl x0 rfl rfl (x_cutOff x0 XPl XR (by decide) (by decide) I _) (fun v1 w1 q1 => ?_)
  obtain ⟨rfl, PX, G⟩ := q1
  refine h_n (st2 := [_]) rfl ?_
  exact h_ri rfl rfl ⟨rfl, R0.plan PX G, fun i hi => G i (by omega)⟩
set_option maxRecDepth 100000 in
set_option maxHeartbeats 4000000 in
theorem x_way_k (R : XW w s n st ks kp tp tn bo so nu) (I : SI s n) (f m c : Nat) (hf : f < n) (hm : m < 2 * n) (hc : c < 24) (L : Nat) (hL : wayL (adjB s n) (opB s n f (nI c)) (gB n) m = L) : ab_Q X kX5_way [.ref 0, .int (nI f), .int (nI m), .int (nI c)] w (fun v w1 => if L = 0 then XP w (-1000004) s n (bump st 3) ks kp tp tn bo so nu v w1 else XP w (nI L) s n st ks kp tp tn bo so nu v w1) := by
  have R0 := R
  obtain ⟨x0, XR, ⟨sd, nd, XD⟩, ⟨sk, nk, XK, hkp⟩, XPl, XT, XS, x45, xl⟩ := R
  have r0 := XR.1
  have p0 := XPl.1
  have d0 := XD.1
  have hn : n ≤ 8 := XR.2.2.2.2.2.2.2
  have RC := R0
  show ab_H X kX5_way 0 [some (.ref 0), some (.int (nI f)), some (.int (nI m)), some (.int (nI c)), none] [] w _
  iterate 3 refine h_s rfl ?_
  refine h_cv rfl rfl rfl x0 rfl rfl (x_isVisit x0 XR (nI f) (nI c)) ?_
  refine h_t (y := 1) (by rw [inN_n (by omega) (by omega), inN_n (by omega) (by omega)]; rfl) ?_
  refine h_n (st2 := [_]) rfl ?_
  iterate 2 refine h_s rfl ?_
  refine h_gf rfl rfl rfl x0 rfl ?_
  refine h_s rfl ?_
  refine h_cv rfl rfl rfl r0 rfl rfl (x_hasRoom XR (nI m)) ?_
  refine h_t (y := 1) (by rw [inN_n (by omega) (by omega)]; rfl) ?_
  refine h_n (st2 := [_]) rfl ?_
  iterate 2 refine h_s rfl ?_
  refine h_gf rfl rfl rfl x0 rfl ?_
  refine h_s rfl ?_
  refine h_gf rfl rfl rfl x0 rfl ?_
  refine hq_v rfl rfl rfl p0 rfl rfl (x_draw XPl XR I (by omega)) (fun v1 w1 q1 => ?_)
  obtain ⟨rfl, PJ, f1⟩ := q1
  have G : ∀ i, (i < 34 ∨ 39 ≤ i) → w1[i]? = w[i]? := fun i hi => f1 i (by omega)
  have x0 := (G 0 (by decide)).trans x0
  have XR := XR.fr (w1 := w1) (fun i _ _ => G i (by omega))
  have r0 := XR.1
  have p0 := PJ.1
  refine h_n (st2 := []) rfl ?_
  refine h_s rfl ?_
  refine h_gf rfl rfl rfl x0 rfl ?_
  iterate 2 refine h_s rfl ?_
  refine h_gf rfl rfl rfl x0 rfl ?_
  iterate 2 refine h_s rfl ?_
  refine h_k (y := 0) rfl rfl ?_
  refine h_k (y := 0) rfl rfl ?_
  refine h_cv rfl rfl rfl r0 rfl rfl (x_lett XR I (show f < 8 by omega) (nI c)) ?_
  refine h_n (st2 := [_, _, _]) rfl ?_
  refine hq_v rfl rfl rfl p0 rfl rfl (x_short PJ hn f (nI c) (room := m) (by omega)) (fun v2 w2 q2 => ?_)
  obtain ⟨rfl, PJ, f2⟩ := q2
  have G : ∀ i, (i < 34 ∨ 39 ≤ i) → w2[i]? = w[i]? := fun i hi => (f2 i (by omega)).trans (G i hi)
  have x0 := (f2 0 (by decide)).trans x0
  have XR := XR.fr (w1 := w2) (fun i _ _ => f2 i (by omega))
  have r0 := XR.1
  have p0 := PJ.1
  refine h_n (st2 := [_]) rfl ?_
  have hL16 : L ≤ 16 := by rw [← hL]; exact wayL_le _
  rw [hL]
  iterate 2 refine h_s rfl ?_
  refine hM_ne rfl rfl rfl rfl (by omega) (fun h61 => ?_) (fun h61 => ?_)
  · refine h_s rfl ?_
    refine h_ri rfl rfl ?_
    rw [if_neg h61]
    exact ⟨rfl, R0.plan PJ.x G, fun i hi => G i (by omega)⟩
  · refine h_s rfl ?_
    refine h_k (y := (-1000004)) rfl rfl ?_
    have RC := R0.plan PJ.x G
    refine hq_v rfl rfl rfl x0 rfl rfl (x_found RC 3 (by omega) _ (by decide)) (fun v9 w9 q9 => ?_)
    obtain ⟨rfl, q2, q3⟩ := q9
    refine h_n (st2 := [_]) rfl ?_
    refine h_s rfl ?_
    refine h_ri rfl rfl ?_
    rw [if_pos h61]
    exact ⟨rfl, q2, fun i hi => (q3 i hi).trans (G i (by omega))⟩
set_option maxRecDepth 100000 in
set_option maxHeartbeats 4000000 in
theorem x_hours_k (R : XW w s n st ks kp tp tn bo so nu) (I : SI s n) (f : Nat) (hf : f < n) : ab_Q X kX5_hours [.ref 0, .int (nI f)] w (XP w (bs (fun c => offB s n f (nI c)) 24) s n st ks kp tp tn bo so nu) := by
  have R0 := R
  obtain ⟨x0, XR, ⟨sd, nd, XD⟩, ⟨sk, nk, XK, hkp⟩, XPl, XT, XS, x45, xl⟩ := R
  have r0 := XR.1
  have p0 := XPl.1
  have d0 := XD.1
  have hn : n ≤ 8 := XR.2.2.2.2.2.2.2
  have RC := R0
  show ab_H X kX5_hours 0 [some (.ref 0), some (.int (nI f)), none, none] [] w _
  refine h_s rfl ?_
  refine h_gf rfl rfl rfl x0 rfl ?_
  refine h_s rfl ?_
  refine h_cv rfl rfl rfl r0 rfl rfl (x_rhas XR (nI f)) ?_
  refine h_t (y := 1) (by rw [inN_n (by omega) (by omega)]; rfl) ?_
  refine h_n (st2 := [_]) rfl ?_
  iterate 2 refine h_s rfl ?_
  refine h_gf rfl rfl rfl x0 rfl ?_
  refine h_s rfl ?_
  refine h_gf rfl rfl rfl x0 rfl ?_
  refine hq_v rfl rfl rfl p0 rfl rfl (x_draw XPl XR I (by omega)) (fun v1 w1 q1 => ?_)
  obtain ⟨rfl, PJ, f1⟩ := q1
  have G : ∀ i, (i < 34 ∨ 39 ≤ i) → w1[i]? = w[i]? := fun i hi => f1 i (by omega)
  have x0 := (G 0 (by decide)).trans x0
  have XR := XR.fr (w1 := w1) (fun i _ _ => G i (by omega))
  have r0 := XR.1
  have p0 := PJ.1
  refine h_n (st2 := []) rfl ?_
  refine h_k (y := 0) rfl rfl ?_
  refine h_s rfl ?_
  refine h_k (y := 0) rfl rfl ?_
  refine h_s rfl ?_
  refine h_loop0 24 (fun i ls v => ls = [some (.ref 0), some (.int (nI f)), some (.int (bs (fun c => offB s n f (nI c)) i)), some (.int (nI i))] ∧ (∀ j, (j < 34 ∨ 39 ≤ j) → v[j]? = w[j]?) ∧ PlanJ v (adjB s n)) ⟨rfl, G, PJ⟩ (fun i ls v hi hJ ih => ?_) (fun ls v hJ => ?_)
  · obtain ⟨rfl, G, PJ⟩ := hJ
    have x0 := (G 0 (by decide)).trans R0.1
    have XR := R0.2.1.fr (w1 := v) (fun j _ _ => G j (by omega))
    have p0 := PJ.1
    have r0 := XR.1
    refine h_s rfl ?_
    refine h_k (y := 24) rfl rfl ?_
    refine hN_ge (b := 24) rfl rfl rfl rfl (by omega) (by omega) (fun h36 => absurd h36 (by omega)) (fun h36 => ?_)
    iterate 3 refine h_s rfl ?_
    refine hq_v rfl rfl rfl x0 rfl rfl (x_lengthHome x0 XR PJ I (f := f) (by omega) (nI i)) (fun v2 w2 q2 => ?_)
    obtain ⟨rfl, PJ, f2⟩ := q2
    have G : ∀ i, (i < 34 ∨ 39 ≤ i) → w2[i]? = w[i]? := fun i hi => (f2 i (by omega)).trans (G i hi)
    have x0 := (f2 0 (by decide)).trans x0
    have XR := XR.fr (w1 := w2) (fun i _ _ => f2 i (by omega))
    have r0 := XR.1
    have p0 := PJ.1
    refine h_n (st2 := [_]) rfl ?_
    obtain ⟨L, hL⟩ : ∃ L, wayF s n f (nI i) = L := ⟨_, rfl⟩
    have hL16 : L ≤ 16 := by rw [← hL]; exact wayF_le ..
    rw [hL]
    refine hM_ne rfl rfl rfl rfl (by omega) (fun h45 => ?_) (fun h45 => ?_)
    · refine h_ii rfl rfl rfl ?_
      refine h_s rfl ?_
      exact ih _ _ ⟨by rw [bs_succ_f (p := (fun c => offB s n f (nI c))) (n := i) (decide_eq_false (show ¬ wayF s n f (nI i) = 0 by rw [hL]; exact h45))]; rfl, G, PJ⟩
    · refine h_s rfl ?_
      refine h_k (y := 1) rfl rfl ?_
      iterate 4 refine h_s rfl ?_
      refine h_ii rfl rfl rfl ?_
      refine h_s rfl ?_
      exact ih _ _ ⟨by rw [← bs_succ_t (p := (fun c => offB s n f (nI c))) (n := i) (decide_eq_true (show wayF s n f (nI i) = 0 by rw [hL]; exact h45))]; rfl, G, PJ⟩
  · obtain ⟨rfl, G, PJ⟩ := hJ
    refine h_s rfl ?_
    refine h_k (y := 24) rfl rfl ?_
    refine hN_ge (b := 24) rfl rfl rfl rfl (by omega) (by omega) (fun h36 => ?_) (fun h36 => absurd (by omega) h36)
    refine h_s rfl ?_
    exact h_ri rfl rfl ⟨rfl, R0.plan PJ.x G, fun i hi => G i (by omega)⟩
set_option maxRecDepth 100000 in
set_option maxHeartbeats 4000000 in
theorem x_latest_k (R : XW w s n st ks kp tp tn bo so nu) (I : SI s n) (f : Nat) (hf : f < n) (B : Int32) (hB : lastI (fun c => offB s n f (nI c)) 24 = B) : ab_Q X kX5_latest [.ref 0, .int (nI f)] w (fun v w1 => if B < 0 then XP w (-1000004) s n (bump st 3) ks kp tp tn bo so nu v w1 else XP w B s n st ks kp tp tn bo so nu v w1) := by
  have R0 := R
  obtain ⟨x0, XR, ⟨sd, nd, XD⟩, ⟨sk, nk, XK, hkp⟩, XPl, XT, XS, x45, xl⟩ := R
  have r0 := XR.1
  have p0 := XPl.1
  have d0 := XD.1
  have hn : n ≤ 8 := XR.2.2.2.2.2.2.2
  have RC := R0
  show ab_H X kX5_latest 0 [some (.ref 0), some (.int (nI f)), none] [] w _
  refine h_s rfl ?_
  refine h_gf rfl rfl rfl x0 rfl ?_
  refine h_s rfl ?_
  refine h_cv rfl rfl rfl r0 rfl rfl (x_rhas XR (nI f)) ?_
  refine h_t (y := 1) (by rw [inN_n (by omega) (by omega)]; rfl) ?_
  refine h_n (st2 := [_]) rfl ?_
  iterate 2 refine h_s rfl ?_
  refine h_gf rfl rfl rfl x0 rfl ?_
  refine h_s rfl ?_
  refine h_gf rfl rfl rfl x0 rfl ?_
  refine hq_v rfl rfl rfl p0 rfl rfl (x_draw XPl XR I (by omega)) (fun v1 w1 q1 => ?_)
  obtain ⟨rfl, PJ, f1⟩ := q1
  have G : ∀ i, (i < 34 ∨ 39 ≤ i) → w1[i]? = w[i]? := fun i hi => f1 i (by omega)
  have x0 := (G 0 (by decide)).trans x0
  have XR := XR.fr (w1 := w1) (fun i _ _ => G i (by omega))
  have r0 := XR.1
  have p0 := PJ.1
  refine h_n (st2 := []) rfl ?_
  refine h_k (y := 23) rfl rfl ?_
  refine h_s rfl ?_
  refine h_loop0 25 (fun i ls v => i ≤ 24 ∧ ls = [some (.ref 0), some (.int (nI f)), some (.int (nI (24 - i) + (-1)))] ∧ (∀ j, (j < 34 ∨ 39 ≤ j) → v[j]? = w[j]?) ∧ PlanJ v (adjB s n) ∧ lastI (fun c => offB s n f (nI c)) (24 - i) = B) ⟨by decide, rfl, G, PJ, hB⟩ (fun i ls v hi hJ ih => ?_) (fun ls v hJ => absurd hJ.1 (by decide))
  obtain ⟨hi24, rfl, G, PJ, hLI⟩ := hJ
  have x0 := (G 0 (by decide)).trans R0.1
  have XR := R0.2.1.fr (w1 := v) (fun j _ _ => G j (by omega))
  have p0 := PJ.1
  have r0 := XR.1
  by_cases e : i = 24
  · subst e
    have hBm : B = -1 := hLI.symm
    refine h_s rfl ?_
    refine h1_lt rfl rfl (fun h33 => ?_) (fun h33 => absurd (by decide) h33)
    refine h_s rfl ?_
    refine h_k (y := (-1000004)) rfl rfl ?_
    have RC := R0.plan PJ.x G
    refine hq_v rfl rfl rfl x0 rfl rfl (x_found RC 3 (by omega) _ (by decide)) (fun v9 w9 q9 => ?_)
    obtain ⟨rfl, q2, q3⟩ := q9
    refine h_n (st2 := [_]) rfl ?_
    refine h_ri rfl rfl ?_
    rw [if_pos (by rw [hBm]; decide)]
    exact ⟨rfl, q2, fun i hi => (q3 i hi).trans (G i (by omega))⟩
  · have e1 : nI (24 - i) + (-1) = nI (23 - i) := by rw [show 24 - i = (23 - i) + 1 by omega]; exact pk_m1 _
    have e3 : nI (23 - i) + Int32.ofInt (-1) = nI (24 - (i + 1)) + (-1) := by rw [show 23 - i = 24 - (i + 1) by omega]; rfl
    rw [e1]
    rw [show 24 - i = (23 - i) + 1 by omega] at hLI
    refine h_s rfl ?_
    refine hM_lt rfl rfl rfl rfl (by omega) (fun h33 => absurd h33 (by omega)) (fun h33 => ?_)
    iterate 3 refine h_s rfl ?_
    refine hq_v rfl rfl rfl x0 rfl rfl (x_lengthHome x0 XR PJ I (f := f) (by omega) (nI (23 - i))) (fun v2 w2 q2 => ?_)
    obtain ⟨rfl, PJ, f2⟩ := q2
    have G : ∀ i, (i < 34 ∨ 39 ≤ i) → w2[i]? = w[i]? := fun i hi => (f2 i (by omega)).trans (G i hi)
    have x0 := (f2 0 (by decide)).trans x0
    have XR := XR.fr (w1 := w2) (fun i _ _ => f2 i (by omega))
    have r0 := XR.1
    have p0 := PJ.1
    refine h_n (st2 := [_]) rfl ?_
    obtain ⟨L, hL⟩ : ∃ L, wayF s n f (nI (23 - i)) = L := ⟨_, rfl⟩
    have hL16 : L ≤ 16 := by rw [← hL]; exact wayF_le ..
    rw [hL]
    refine hM_le rfl rfl rfl rfl (by omega) (fun h42 => ?_) (fun h42 => ?_)
    · iterate 2 refine h_s rfl ?_
      refine ih _ _ ⟨by omega, by rw [← e3]; rfl, G, PJ, ?_⟩
      rw [← hLI, lastI, if_pos (show offB s n f (nI (23 - i)) = true from decide_eq_true (by rw [hL]; omega)), show 24 - (i + 1) = 23 - i by omega]
    · refine h_s rfl ?_
      rw [lastI, if_neg (show ¬ offB s n f (nI (23 - i)) = true from by unfold offB; rw [decide_eq_false (by rw [hL]; omega)]; decide)] at hLI
      refine h_ri rfl rfl ?_
      rw [← hLI, if_neg (nI_pos (by omega))]
      exact ⟨rfl, R0.plan PJ.x G, fun i hi => G i (by omega)⟩
set_option maxRecDepth 100000 in
set_option maxHeartbeats 4000000 in
theorem x_beds_k (R : XW w s n st ks kp tp tn bo so nu) (h : Nat) (hh : h < n) : ab_Q X kX5_beds [.ref 0, .int (nI h)] w (XP w (bs (fun f => decide (fld s f 7 = nI h)) n) s n st ks kp tp tn bo so nu) := by
  have R0 := R
  obtain ⟨x0, XR, ⟨sd, nd, XD⟩, ⟨sk, nk, XK, hkp⟩, XPl, XT, XS, x45, xl⟩ := R
  have r0 := XR.1
  have p0 := XPl.1
  have d0 := XD.1
  have hn : n ≤ 8 := XR.2.2.2.2.2.2.2
  have RC := R0
  show ab_H X kX5_beds 0 [some (.ref 0), some (.int (nI h))] [] w _
  refine h_s rfl ?_
  refine h_gf rfl rfl rfl x0 rfl ?_
  refine h_s rfl ?_
  refine h_cv rfl rfl rfl r0 rfl rfl (x_rhas XR (nI h)) ?_
  refine h_t (y := 1) (by rw [inN_n (by omega) (by omega)]; rfl) ?_
  refine h_n (st2 := [_]) rfl ?_
  iterate 2 refine h_s rfl ?_
  refine h_gf rfl rfl rfl x0 rfl ?_
  refine h_s rfl ?_
  refine h_cv rfl rfl rfl r0 rfl rfl (x_sleepingIn XR (nI h)) ?_
  refine h_n (st2 := [_]) rfl ?_
  exact h_ri rfl rfl (XP.same R0 _)
end XL
