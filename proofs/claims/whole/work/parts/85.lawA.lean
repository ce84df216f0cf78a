/-! THE LAW: its cases -/
section LC
variable {X : List Int32} {w : ab_W} {i : Nat} {Q : Option Value → ab_W → Prop}
theorem lw_i6 (i : Nat) : nI i + Int32.ofInt 6 = nI (i + 6) := nI_add i 6
set_option maxRecDepth 100000 in
set_option maxHeartbeats 4000000 in
theorem lw_e (K : ∀ w', LL w' → ab_H X kL_law 18 [some (.retAddr 0), some (.ref 0), some (.ref 54), some (.int (nI (i + 6)))] [] w' Q) (h : LL w) : ab_H X kL_law 1632 [some (.retAddr 0), some (.ref 0), some (.ref 54), some (.int (nI i))] [] w Q := by
  iterate 2 refine h_s rfl ?_
  show ab_H X kL_law 18 [some (.retAddr 0), some (.ref 0), some (.ref 54), some (.int (nI i + Int32.ofInt 6))] [] w Q
  rw [lw_i6]
  exact K w h
set_option maxRecDepth 100000 in
set_option maxHeartbeats 4000000 in
theorem lw_c0 (K : ∀ w', LL w' → ab_H X kL_law 18 [some (.retAddr 0), some (.ref 0), some (.ref 54), some (.int (nI (i + 6)))] [] w' Q) (hX : X.length ≤ 384) (hi : i + 6 ≤ X.length) (h : LL w) : ab_H X kL_law 232 [some (.retAddr 0), some (.ref 0), some (.ref 54), some (.int (nI i))] [] w Q := by
  obtain ⟨⟨vx, x0⟩, vm, a54⟩ := lw_o h.1
  iterate 3 refine h_s rfl ?_
  refine h_k (y := 1) rfl rfl ?_
  refine h_Nadd (b := 1) rfl rfl rfl ?_
  refine h_ix _ rfl rfl (by omega) rfl (by omega) ?_
  refine hq_v rfl rfl rfl x0 rfl rfl (p_len (p_house _ h.1) rfl rfl h.2) (fun v1 w1 q1 => ?_)
  obtain ⟨r1, rfl, g1, q1⟩ := q1
  refine h_n (st2 := [_]) rfl ?_
  iterate 3 refine h_s rfl ?_
  refine h_k (y := 1) rfl rfl ?_
  refine h_Nadd (b := 1) rfl rfl rfl ?_
  refine h_ix _ rfl rfl (by omega) rfl (by omega) ?_
  refine hq_v rfl rfl rfl (g1.trans a54) rfl rfl q1 (fun v2 w2 q2 => ?_)
  obtain ⟨rfl, h2⟩ := q2
  refine h_n (st2 := [_, _]) rfl ?_
  refine h2_eq rfl rfl (fun h250 => ?_) (fun h250 => absurd (rfl) h250)
  exact lw_e K h2
set_option maxRecDepth 100000 in
set_option maxHeartbeats 4000000 in
theorem lw_c1 (K : ∀ w', LL w' → ab_H X kL_law 18 [some (.retAddr 0), some (.ref 0), some (.ref 54), some (.int (nI (i + 6)))] [] w' Q) (hX : X.length ≤ 384) (hi : i + 6 ≤ X.length) (h : LL w) : ab_H X kL_law 255 [some (.retAddr 0), some (.ref 0), some (.ref 54), some (.int (nI i))] [] w Q := by
  obtain ⟨⟨vx, x0⟩, vm, a54⟩ := lw_o h.1
  iterate 3 refine h_s rfl ?_
  refine h_k (y := 1) rfl rfl ?_
  refine h_Nadd (b := 1) rfl rfl rfl ?_
  refine h_ix _ rfl rfl (by omega) rfl (by omega) ?_
  iterate 2 refine h_s rfl ?_
  refine h_k (y := 2) rfl rfl ?_
  refine h_Nadd (b := 2) rfl rfl rfl ?_
  refine h_ix _ rfl rfl (by omega) rfl (by omega) ?_
  refine hq_v rfl rfl rfl x0 rfl rfl (p_len (p_of _ _ h.1) rfl rfl h.2) (fun v1 w1 q1 => ?_)
  obtain ⟨r1, rfl, g1, q1⟩ := q1
  refine h_n (st2 := [_]) rfl ?_
  iterate 3 refine h_s rfl ?_
  refine h_k (y := 1) rfl rfl ?_
  refine h_Nadd (b := 1) rfl rfl rfl ?_
  refine h_ix _ rfl rfl (by omega) rfl (by omega) ?_
  iterate 2 refine h_s rfl ?_
  refine h_k (y := 2) rfl rfl ?_
  refine h_Nadd (b := 2) rfl rfl rfl ?_
  refine h_ix _ rfl rfl (by omega) rfl (by omega) ?_
  refine hq_v rfl rfl rfl (g1.trans a54) rfl rfl q1 (fun v2 w2 q2 => ?_)
  obtain ⟨rfl, h2⟩ := q2
  refine h_n (st2 := [_, _]) rfl ?_
  refine h2_eq rfl rfl (fun h283 => ?_) (fun h283 => absurd (rfl) h283)
  exact lw_e K h2
set_option maxRecDepth 100000 in
set_option maxHeartbeats 4000000 in
theorem lw_c2 (K : ∀ w', LL w' → ab_H X kL_law 18 [some (.retAddr 0), some (.ref 0), some (.ref 54), some (.int (nI (i + 6)))] [] w' Q) (hX : X.length ≤ 384) (hi : i + 6 ≤ X.length) (h : LL w) : ab_H X kL_law 288 [some (.retAddr 0), some (.ref 0), some (.ref 54), some (.int (nI i))] [] w Q := by
  obtain ⟨⟨vx, x0⟩, vm, a54⟩ := lw_o h.1
  iterate 3 refine h_s rfl ?_
  refine h_k (y := 1) rfl rfl ?_
  refine h_Nadd (b := 1) rfl rfl rfl ?_
  refine h_ix _ rfl rfl (by omega) rfl (by omega) ?_
  iterate 2 refine h_s rfl ?_
  refine h_k (y := 2) rfl rfl ?_
  refine h_Nadd (b := 2) rfl rfl rfl ?_
  refine h_ix _ rfl rfl (by omega) rfl (by omega) ?_
  iterate 2 refine h_s rfl ?_
  refine h_k (y := 3) rfl rfl ?_
  refine h_Nadd (b := 3) rfl rfl rfl ?_
  refine h_ix _ rfl rfl (by omega) rfl (by omega) ?_
  refine hq_v rfl rfl rfl x0 rfl rfl (p_len (p_change _ _ _ h.1) rfl rfl h.2) (fun v1 w1 q1 => ?_)
  obtain ⟨r1, rfl, g1, q1⟩ := q1
  refine h_n (st2 := [_]) rfl ?_
  iterate 3 refine h_s rfl ?_
  refine h_k (y := 1) rfl rfl ?_
  refine h_Nadd (b := 1) rfl rfl rfl ?_
  refine h_ix _ rfl rfl (by omega) rfl (by omega) ?_
  iterate 2 refine h_s rfl ?_
  refine h_k (y := 2) rfl rfl ?_
  refine h_Nadd (b := 2) rfl rfl rfl ?_
  refine h_ix _ rfl rfl (by omega) rfl (by omega) ?_
  iterate 2 refine h_s rfl ?_
  refine h_k (y := 3) rfl rfl ?_
  refine h_Nadd (b := 3) rfl rfl rfl ?_
  refine h_ix _ rfl rfl (by omega) rfl (by omega) ?_
  refine hq_v rfl rfl rfl (g1.trans a54) rfl rfl q1 (fun v2 w2 q2 => ?_)
  obtain ⟨rfl, h2⟩ := q2
  refine h_n (st2 := [_, _]) rfl ?_
  refine h2_eq rfl rfl (fun h326 => ?_) (fun h326 => absurd (rfl) h326)
  exact lw_e K h2
set_option maxRecDepth 100000 in
set_option maxHeartbeats 4000000 in
theorem lw_c3 (K : ∀ w', LL w' → ab_H X kL_law 18 [some (.retAddr 0), some (.ref 0), some (.ref 54), some (.int (nI (i + 6)))] [] w' Q) (hX : X.length ≤ 384) (hi : i + 6 ≤ X.length) (h : LL w) : ab_H X kL_law 331 [some (.retAddr 0), some (.ref 0), some (.ref 54), some (.int (nI i))] [] w Q := by
  obtain ⟨⟨vx, x0⟩, vm, a54⟩ := lw_o h.1
  iterate 3 refine h_s rfl ?_
  refine h_k (y := 1) rfl rfl ?_
  refine h_Nadd (b := 1) rfl rfl rfl ?_
  refine h_ix _ rfl rfl (by omega) rfl (by omega) ?_
  iterate 2 refine h_s rfl ?_
  refine h_k (y := 2) rfl rfl ?_
  refine h_Nadd (b := 2) rfl rfl rfl ?_
  refine h_ix _ rfl rfl (by omega) rfl (by omega) ?_
  refine hq_v rfl rfl rfl x0 rfl rfl (p_len (p_stair _ _ h.1) rfl rfl h.2) (fun v1 w1 q1 => ?_)
  obtain ⟨r1, rfl, g1, q1⟩ := q1
  refine h_n (st2 := [_]) rfl ?_
  iterate 3 refine h_s rfl ?_
  refine h_k (y := 1) rfl rfl ?_
  refine h_Nadd (b := 1) rfl rfl rfl ?_
  refine h_ix _ rfl rfl (by omega) rfl (by omega) ?_
  iterate 2 refine h_s rfl ?_
  refine h_k (y := 2) rfl rfl ?_
  refine h_Nadd (b := 2) rfl rfl rfl ?_
  refine h_ix _ rfl rfl (by omega) rfl (by omega) ?_
  refine hq_v rfl rfl rfl (g1.trans a54) rfl rfl q1 (fun v2 w2 q2 => ?_)
  obtain ⟨rfl, h2⟩ := q2
  refine h_n (st2 := [_, _]) rfl ?_
  refine h2_eq rfl rfl (fun h359 => ?_) (fun h359 => absurd (rfl) h359)
  exact lw_e K h2
set_option maxRecDepth 100000 in
set_option maxHeartbeats 4000000 in
theorem lw_c4 (K : ∀ w', LL w' → ab_H X kL_law 18 [some (.retAddr 0), some (.ref 0), some (.ref 54), some (.int (nI (i + 6)))] [] w' Q) (hX : X.length ≤ 384) (hi : i + 6 ≤ X.length) (h : LL w) : ab_H X kL_law 364 [some (.retAddr 0), some (.ref 0), some (.ref 54), some (.int (nI i))] [] w Q := by
  obtain ⟨⟨vx, x0⟩, vm, a54⟩ := lw_o h.1
  iterate 3 refine h_s rfl ?_
  refine h_k (y := 1) rfl rfl ?_
  refine h_Nadd (b := 1) rfl rfl rfl ?_
  refine h_ix _ rfl rfl (by omega) rfl (by omega) ?_
  iterate 2 refine h_s rfl ?_
  refine h_k (y := 2) rfl rfl ?_
  refine h_Nadd (b := 2) rfl rfl rfl ?_
  refine h_ix _ rfl rfl (by omega) rfl (by omega) ?_
  iterate 2 refine h_s rfl ?_
  refine h_k (y := 3) rfl rfl ?_
  refine h_Nadd (b := 3) rfl rfl rfl ?_
  refine h_ix _ rfl rfl (by omega) rfl (by omega) ?_
  iterate 2 refine h_s rfl ?_
  refine h_k (y := 4) rfl rfl ?_
  refine h_Nadd (b := 4) rfl rfl rfl ?_
  refine h_ix _ rfl rfl (by omega) rfl (by omega) ?_
  refine h1_eq rfl rfl (fun h385 => ?_) (fun h385 => ?_)
  · refine h_k (y := 0) rfl rfl ?_
    refine hq_v rfl rfl rfl x0 rfl rfl (p_len (p_name _ _ _ false h.1) rfl rfl h.2) (fun v1 w1 q1 => ?_)
    obtain ⟨r1, rfl, g1, q1⟩ := q1
    refine h_n (st2 := [_]) rfl ?_
    iterate 3 refine h_s rfl ?_
    refine h_k (y := 1) rfl rfl ?_
    refine h_Nadd (b := 1) rfl rfl rfl ?_
    refine h_ix _ rfl rfl (by omega) rfl (by omega) ?_
    iterate 2 refine h_s rfl ?_
    refine h_k (y := 2) rfl rfl ?_
    refine h_Nadd (b := 2) rfl rfl rfl ?_
    refine h_ix _ rfl rfl (by omega) rfl (by omega) ?_
    iterate 2 refine h_s rfl ?_
    refine h_k (y := 3) rfl rfl ?_
    refine h_Nadd (b := 3) rfl rfl rfl ?_
    refine h_ix _ rfl rfl (by omega) rfl (by omega) ?_
    iterate 2 refine h_s rfl ?_
    refine h_k (y := 4) rfl rfl ?_
    refine h_Nadd (b := 4) rfl rfl rfl ?_
    refine h_ix _ rfl rfl (by omega) rfl (by omega) ?_
    refine h1_eq rfl rfl (fun h417 => ?_) (fun h417 => absurd (h385) h417)
    refine h_k (y := 0) rfl rfl ?_
    refine hq_v rfl rfl rfl (g1.trans a54) rfl rfl q1 (fun v2 w2 q2 => ?_)
    obtain ⟨rfl, h2⟩ := q2
    refine h_n (st2 := [_, _]) rfl ?_
    refine h2_eq rfl rfl (fun h428 => ?_) (fun h428 => absurd (rfl) h428)
    exact lw_e K h2
  · refine h_k (y := 1) rfl rfl ?_
    refine h_s rfl ?_
    refine hq_v rfl rfl rfl x0 rfl rfl (p_len (p_name _ _ _ true h.1) rfl rfl h.2) (fun v1 w1 q1 => ?_)
    obtain ⟨r1, rfl, g1, q1⟩ := q1
    refine h_n (st2 := [_]) rfl ?_
    iterate 3 refine h_s rfl ?_
    refine h_k (y := 1) rfl rfl ?_
    refine h_Nadd (b := 1) rfl rfl rfl ?_
    refine h_ix _ rfl rfl (by omega) rfl (by omega) ?_
    iterate 2 refine h_s rfl ?_
    refine h_k (y := 2) rfl rfl ?_
    refine h_Nadd (b := 2) rfl rfl rfl ?_
    refine h_ix _ rfl rfl (by omega) rfl (by omega) ?_
    iterate 2 refine h_s rfl ?_
    refine h_k (y := 3) rfl rfl ?_
    refine h_Nadd (b := 3) rfl rfl rfl ?_
    refine h_ix _ rfl rfl (by omega) rfl (by omega) ?_
    iterate 2 refine h_s rfl ?_
    refine h_k (y := 4) rfl rfl ?_
    refine h_Nadd (b := 4) rfl rfl rfl ?_
    refine h_ix _ rfl rfl (by omega) rfl (by omega) ?_
    refine h1_eq rfl rfl (fun h417 => absurd h417 (h385)) (fun h417 => ?_)
    refine h_k (y := 1) rfl rfl ?_
    refine h_s rfl ?_
    refine hq_v rfl rfl rfl (g1.trans a54) rfl rfl q1 (fun v2 w2 q2 => ?_)
    obtain ⟨rfl, h2⟩ := q2
    refine h_n (st2 := [_, _]) rfl ?_
    refine h2_eq rfl rfl (fun h428 => ?_) (fun h428 => absurd (rfl) h428)
    exact lw_e K h2
set_option maxRecDepth 100000 in
set_option maxHeartbeats 4000000 in
theorem lw_c5 (K : ∀ w', LL w' → ab_H X kL_law 18 [some (.retAddr 0), some (.ref 0), some (.ref 54), some (.int (nI (i + 6)))] [] w' Q) (hX : X.length ≤ 384) (hi : i + 6 ≤ X.length) (h : LL w) : ab_H X kL_law 433 [some (.retAddr 0), some (.ref 0), some (.ref 54), some (.int (nI i))] [] w Q := by
  obtain ⟨⟨vx, x0⟩, vm, a54⟩ := lw_o h.1
  iterate 3 refine h_s rfl ?_
  refine h_k (y := 1) rfl rfl ?_
  refine h_Nadd (b := 1) rfl rfl rfl ?_
  refine h_ix _ rfl rfl (by omega) rfl (by omega) ?_
  iterate 2 refine h_s rfl ?_
  refine h_k (y := 2) rfl rfl ?_
  refine h_Nadd (b := 2) rfl rfl rfl ?_
  refine h_ix _ rfl rfl (by omega) rfl (by omega) ?_
  refine h1_eq rfl rfl (fun h444 => ?_) (fun h444 => ?_)
  · refine h_k (y := 0) rfl rfl ?_
    refine hq_v rfl rfl rfl x0 rfl rfl (p_len (p_door _ false h.1) rfl rfl h.2) (fun v1 w1 q1 => ?_)
    obtain ⟨r1, rfl, g1, q1⟩ := q1
    refine h_n (st2 := [_]) rfl ?_
    iterate 3 refine h_s rfl ?_
    refine h_k (y := 1) rfl rfl ?_
    refine h_Nadd (b := 1) rfl rfl rfl ?_
    refine h_ix _ rfl rfl (by omega) rfl (by omega) ?_
    iterate 2 refine h_s rfl ?_
    refine h_k (y := 2) rfl rfl ?_
    refine h_Nadd (b := 2) rfl rfl rfl ?_
    refine h_ix _ rfl rfl (by omega) rfl (by omega) ?_
    refine h1_eq rfl rfl (fun h466 => ?_) (fun h466 => absurd (h444) h466)
    refine h_k (y := 0) rfl rfl ?_
    refine hq_v rfl rfl rfl (g1.trans a54) rfl rfl q1 (fun v2 w2 q2 => ?_)
    obtain ⟨rfl, h2⟩ := q2
    refine h_n (st2 := [_, _]) rfl ?_
    refine h2_eq rfl rfl (fun h477 => ?_) (fun h477 => absurd (rfl) h477)
    exact lw_e K h2
  · refine h_k (y := 1) rfl rfl ?_
    refine h_s rfl ?_
    refine hq_v rfl rfl rfl x0 rfl rfl (p_len (p_door _ true h.1) rfl rfl h.2) (fun v1 w1 q1 => ?_)
    obtain ⟨r1, rfl, g1, q1⟩ := q1
    refine h_n (st2 := [_]) rfl ?_
    iterate 3 refine h_s rfl ?_
    refine h_k (y := 1) rfl rfl ?_
    refine h_Nadd (b := 1) rfl rfl rfl ?_
    refine h_ix _ rfl rfl (by omega) rfl (by omega) ?_
    iterate 2 refine h_s rfl ?_
    refine h_k (y := 2) rfl rfl ?_
    refine h_Nadd (b := 2) rfl rfl rfl ?_
    refine h_ix _ rfl rfl (by omega) rfl (by omega) ?_
    refine h1_eq rfl rfl (fun h466 => absurd h466 (h444)) (fun h466 => ?_)
    refine h_k (y := 1) rfl rfl ?_
    refine h_s rfl ?_
    refine hq_v rfl rfl rfl (g1.trans a54) rfl rfl q1 (fun v2 w2 q2 => ?_)
    obtain ⟨rfl, h2⟩ := q2
    refine h_n (st2 := [_, _]) rfl ?_
    refine h2_eq rfl rfl (fun h477 => ?_) (fun h477 => absurd (rfl) h477)
    exact lw_e K h2
set_option maxRecDepth 100000 in
set_option maxHeartbeats 4000000 in
theorem lw_c6 (K : ∀ w', LL w' → ab_H X kL_law 18 [some (.retAddr 0), some (.ref 0), some (.ref 54), some (.int (nI (i + 6)))] [] w' Q) (hX : X.length ≤ 384) (hi : i + 6 ≤ X.length) (h : LL w) : ab_H X kL_law 482 [some (.retAddr 0), some (.ref 0), some (.ref 54), some (.int (nI i))] [] w Q := by
  obtain ⟨⟨vx, x0⟩, vm, a54⟩ := lw_o h.1
  iterate 3 refine h_s rfl ?_
  refine h_k (y := 1) rfl rfl ?_
  refine h_Nadd (b := 1) rfl rfl rfl ?_
  refine h_ix _ rfl rfl (by omega) rfl (by omega) ?_
  iterate 2 refine h_s rfl ?_
  refine h_k (y := 2) rfl rfl ?_
  refine h_Nadd (b := 2) rfl rfl rfl ?_
  refine h_ix _ rfl rfl (by omega) rfl (by omega) ?_
  iterate 2 refine h_s rfl ?_
  refine h_k (y := 3) rfl rfl ?_
  refine h_Nadd (b := 3) rfl rfl rfl ?_
  refine h_ix _ rfl rfl (by omega) rfl (by omega) ?_
  refine hq_v rfl rfl rfl x0 rfl rfl (p_len (p_lets _ _ _ h.1) rfl rfl h.2) (fun v1 w1 q1 => ?_)
  obtain ⟨r1, rfl, g1, q1⟩ := q1
  refine h_n (st2 := [_]) rfl ?_
  iterate 3 refine h_s rfl ?_
  refine h_k (y := 1) rfl rfl ?_
  refine h_Nadd (b := 1) rfl rfl rfl ?_
  refine h_ix _ rfl rfl (by omega) rfl (by omega) ?_
  iterate 2 refine h_s rfl ?_
  refine h_k (y := 2) rfl rfl ?_
  refine h_Nadd (b := 2) rfl rfl rfl ?_
  refine h_ix _ rfl rfl (by omega) rfl (by omega) ?_
  iterate 2 refine h_s rfl ?_
  refine h_k (y := 3) rfl rfl ?_
  refine h_Nadd (b := 3) rfl rfl rfl ?_
  refine h_ix _ rfl rfl (by omega) rfl (by omega) ?_
  refine hq_v rfl rfl rfl (g1.trans a54) rfl rfl q1 (fun v2 w2 q2 => ?_)
  obtain ⟨rfl, h2⟩ := q2
  refine h_n (st2 := [_, _]) rfl ?_
  refine h2_eq rfl rfl (fun h520 => ?_) (fun h520 => absurd (rfl) h520)
  exact lw_e K h2
set_option maxRecDepth 100000 in
set_option maxHeartbeats 4000000 in
theorem lw_c7 (K : ∀ w', LL w' → ab_H X kL_law 18 [some (.retAddr 0), some (.ref 0), some (.ref 54), some (.int (nI (i + 6)))] [] w' Q) (hX : X.length ≤ 384) (hi : i + 6 ≤ X.length) (h : LL w) : ab_H X kL_law 525 [some (.retAddr 0), some (.ref 0), some (.ref 54), some (.int (nI i))] [] w Q := by
  obtain ⟨⟨vx, x0⟩, vm, a54⟩ := lw_o h.1
  iterate 3 refine h_s rfl ?_
  refine h_k (y := 1) rfl rfl ?_
  refine h_Nadd (b := 1) rfl rfl rfl ?_
  refine h_ix _ rfl rfl (by omega) rfl (by omega) ?_
  iterate 2 refine h_s rfl ?_
  refine h_k (y := 2) rfl rfl ?_
  refine h_Nadd (b := 2) rfl rfl rfl ?_
  refine h_ix _ rfl rfl (by omega) rfl (by omega) ?_
  refine hq_v rfl rfl rfl x0 rfl rfl (p_len (p_letting _ _ h.1) rfl rfl h.2) (fun v1 w1 q1 => ?_)
  obtain ⟨r1, rfl, g1, q1⟩ := q1
  refine h_n (st2 := [_]) rfl ?_
  iterate 3 refine h_s rfl ?_
  refine h_k (y := 1) rfl rfl ?_
  refine h_Nadd (b := 1) rfl rfl rfl ?_
  refine h_ix _ rfl rfl (by omega) rfl (by omega) ?_
  iterate 2 refine h_s rfl ?_
  refine h_k (y := 2) rfl rfl ?_
  refine h_Nadd (b := 2) rfl rfl rfl ?_
  refine h_ix _ rfl rfl (by omega) rfl (by omega) ?_
  refine hq_v rfl rfl rfl (g1.trans a54) rfl rfl q1 (fun v2 w2 q2 => ?_)
  obtain ⟨rfl, h2⟩ := q2
  refine h_n (st2 := [_, _]) rfl ?_
  refine h2_eq rfl rfl (fun h553 => ?_) (fun h553 => absurd (rfl) h553)
  exact lw_e K h2
set_option maxRecDepth 100000 in
set_option maxHeartbeats 4000000 in
theorem lw_c8 (K : ∀ w', LL w' → ab_H X kL_law 18 [some (.retAddr 0), some (.ref 0), some (.ref 54), some (.int (nI (i + 6)))] [] w' Q) (hX : X.length ≤ 384) (hi : i + 6 ≤ X.length) (h : LL w) : ab_H X kL_law 558 [some (.retAddr 0), some (.ref 0), some (.ref 54), some (.int (nI i))] [] w Q := by
  obtain ⟨⟨vx, x0⟩, vm, a54⟩ := lw_o h.1
  iterate 3 refine h_s rfl ?_
  refine h_k (y := 1) rfl rfl ?_
  refine h_Nadd (b := 1) rfl rfl rfl ?_
  refine h_ix _ rfl rfl (by omega) rfl (by omega) ?_
  refine hq_v rfl rfl rfl x0 rfl rfl (p_len (p_joined _ h.1) rfl rfl h.2) (fun v1 w1 q1 => ?_)
  obtain ⟨r1, rfl, g1, q1⟩ := q1
  refine h_n (st2 := [_]) rfl ?_
  iterate 3 refine h_s rfl ?_
  refine h_k (y := 1) rfl rfl ?_
  refine h_Nadd (b := 1) rfl rfl rfl ?_
  refine h_ix _ rfl rfl (by omega) rfl (by omega) ?_
  refine hq_v rfl rfl rfl (g1.trans a54) rfl rfl q1 (fun v2 w2 q2 => ?_)
  obtain ⟨rfl, h2⟩ := q2
  refine h_n (st2 := [_, _]) rfl ?_
  refine h2_eq rfl rfl (fun h576 => ?_) (fun h576 => absurd (rfl) h576)
  exact lw_e K h2
set_option maxRecDepth 100000 in
set_option maxHeartbeats 4000000 in
theorem lw_c9 (K : ∀ w', LL w' → ab_H X kL_law 18 [some (.retAddr 0), some (.ref 0), some (.ref 54), some (.int (nI (i + 6)))] [] w' Q) (hX : X.length ≤ 384) (hi : i + 6 ≤ X.length) (h : LL w) : ab_H X kL_law 581 [some (.retAddr 0), some (.ref 0), some (.ref 54), some (.int (nI i))] [] w Q := by
  obtain ⟨⟨vx, x0⟩, vm, a54⟩ := lw_o h.1
  iterate 3 refine h_s rfl ?_
  refine h_k (y := 1) rfl rfl ?_
  refine h_Nadd (b := 1) rfl rfl rfl ?_
  refine h_ix _ rfl rfl (by omega) rfl (by omega) ?_
  iterate 2 refine h_s rfl ?_
  refine h_k (y := 2) rfl rfl ?_
  refine h_Nadd (b := 2) rfl rfl rfl ?_
  refine h_ix _ rfl rfl (by omega) rfl (by omega) ?_
  iterate 2 refine h_s rfl ?_
  refine h_k (y := 3) rfl rfl ?_
  refine h_Nadd (b := 3) rfl rfl rfl ?_
  refine h_ix _ rfl rfl (by omega) rfl (by omega) ?_
  refine hq_v rfl rfl rfl x0 rfl rfl (p_len (p_way _ _ _ h.1) rfl rfl h.2) (fun v1 w1 q1 => ?_)
  obtain ⟨r1, rfl, g1, q1⟩ := q1
  refine h_n (st2 := [_]) rfl ?_
  iterate 3 refine h_s rfl ?_
  refine h_k (y := 1) rfl rfl ?_
  refine h_Nadd (b := 1) rfl rfl rfl ?_
  refine h_ix _ rfl rfl (by omega) rfl (by omega) ?_
  iterate 2 refine h_s rfl ?_
  refine h_k (y := 2) rfl rfl ?_
  refine h_Nadd (b := 2) rfl rfl rfl ?_
  refine h_ix _ rfl rfl (by omega) rfl (by omega) ?_
  iterate 2 refine h_s rfl ?_
  refine h_k (y := 3) rfl rfl ?_
  refine h_Nadd (b := 3) rfl rfl rfl ?_
  refine h_ix _ rfl rfl (by omega) rfl (by omega) ?_
  refine hq_v rfl rfl rfl (g1.trans a54) rfl rfl q1 (fun v2 w2 q2 => ?_)
  obtain ⟨rfl, h2⟩ := q2
  refine h_n (st2 := [_, _]) rfl ?_
  refine h2_eq rfl rfl (fun h619 => ?_) (fun h619 => absurd (rfl) h619)
  exact lw_e K h2
set_option maxRecDepth 100000 in
set_option maxHeartbeats 4000000 in
theorem lw_c10 (K : ∀ w', LL w' → ab_H X kL_law 18 [some (.retAddr 0), some (.ref 0), some (.ref 54), some (.int (nI (i + 6)))] [] w' Q) (hX : X.length ≤ 384) (hi : i + 6 ≤ X.length) (h : LL w) : ab_H X kL_law 624 [some (.retAddr 0), some (.ref 0), some (.ref 54), some (.int (nI i))] [] w Q := by
  obtain ⟨⟨vx, x0⟩, vm, a54⟩ := lw_o h.1
  iterate 3 refine h_s rfl ?_
  refine h_k (y := 1) rfl rfl ?_
  refine h_Nadd (b := 1) rfl rfl rfl ?_
  refine h_ix _ rfl rfl (by omega) rfl (by omega) ?_
  iterate 2 refine h_s rfl ?_
  refine h_k (y := 2) rfl rfl ?_
  refine h_Nadd (b := 2) rfl rfl rfl ?_
  refine h_ix _ rfl rfl (by omega) rfl (by omega) ?_
  iterate 2 refine h_s rfl ?_
  refine h_k (y := 3) rfl rfl ?_
  refine h_Nadd (b := 3) rfl rfl rfl ?_
  refine h_ix _ rfl rfl (by omega) rfl (by omega) ?_
  refine hq_v rfl rfl rfl x0 rfl rfl (p_len (p_noise _ _ _ h.1) rfl rfl h.2) (fun v1 w1 q1 => ?_)
  obtain ⟨r1, rfl, g1, q1⟩ := q1
  refine h_n (st2 := [_]) rfl ?_
  iterate 3 refine h_s rfl ?_
  refine h_k (y := 1) rfl rfl ?_
  refine h_Nadd (b := 1) rfl rfl rfl ?_
  refine h_ix _ rfl rfl (by omega) rfl (by omega) ?_
  iterate 2 refine h_s rfl ?_
  refine h_k (y := 2) rfl rfl ?_
  refine h_Nadd (b := 2) rfl rfl rfl ?_
  refine h_ix _ rfl rfl (by omega) rfl (by omega) ?_
  iterate 2 refine h_s rfl ?_
  refine h_k (y := 3) rfl rfl ?_
  refine h_Nadd (b := 3) rfl rfl rfl ?_
  refine h_ix _ rfl rfl (by omega) rfl (by omega) ?_
  refine hq_v rfl rfl rfl (g1.trans a54) rfl rfl q1 (fun v2 w2 q2 => ?_)
  obtain ⟨rfl, h2⟩ := q2
  refine h_n (st2 := [_, _]) rfl ?_
  refine h2_eq rfl rfl (fun h662 => ?_) (fun h662 => absurd (rfl) h662)
  exact lw_e K h2
set_option maxRecDepth 100000 in
set_option maxHeartbeats 4000000 in
theorem lw_c11 (K : ∀ w', LL w' → ab_H X kL_law 18 [some (.retAddr 0), some (.ref 0), some (.ref 54), some (.int (nI (i + 6)))] [] w' Q) (hX : X.length ≤ 384) (hi : i + 6 ≤ X.length) (h : LL w) : ab_H X kL_law 667 [some (.retAddr 0), some (.ref 0), some (.ref 54), some (.int (nI i))] [] w Q := by
  obtain ⟨⟨vx, x0⟩, vm, a54⟩ := lw_o h.1
  iterate 3 refine h_s rfl ?_
  refine h_k (y := 1) rfl rfl ?_
  refine h_Nadd (b := 1) rfl rfl rfl ?_
  refine h_ix _ rfl rfl (by omega) rfl (by omega) ?_
  iterate 2 refine h_s rfl ?_
  refine h_k (y := 2) rfl rfl ?_
  refine h_Nadd (b := 2) rfl rfl rfl ?_
  refine h_ix _ rfl rfl (by omega) rfl (by omega) ?_
  iterate 2 refine h_s rfl ?_
  refine h_k (y := 3) rfl rfl ?_
  refine h_Nadd (b := 3) rfl rfl rfl ?_
  refine h_ix _ rfl rfl (by omega) rfl (by omega) ?_
  refine hq_v rfl rfl rfl x0 rfl rfl (p_len (p_step _ _ _ h.1) rfl rfl h.2) (fun v1 w1 q1 => ?_)
  obtain ⟨r1, rfl, g1, q1⟩ := q1
  refine h_n (st2 := [_]) rfl ?_
  iterate 3 refine h_s rfl ?_
  refine h_k (y := 1) rfl rfl ?_
  refine h_Nadd (b := 1) rfl rfl rfl ?_
  refine h_ix _ rfl rfl (by omega) rfl (by omega) ?_
  iterate 2 refine h_s rfl ?_
  refine h_k (y := 2) rfl rfl ?_
  refine h_Nadd (b := 2) rfl rfl rfl ?_
  refine h_ix _ rfl rfl (by omega) rfl (by omega) ?_
  iterate 2 refine h_s rfl ?_
  refine h_k (y := 3) rfl rfl ?_
  refine h_Nadd (b := 3) rfl rfl rfl ?_
  refine h_ix _ rfl rfl (by omega) rfl (by omega) ?_
  refine hq_v rfl rfl rfl (g1.trans a54) rfl rfl q1 (fun v2 w2 q2 => ?_)
  obtain ⟨rfl, h2⟩ := q2
  refine h_n (st2 := [_, _]) rfl ?_
  refine h2_eq rfl rfl (fun h705 => ?_) (fun h705 => absurd (rfl) h705)
  exact lw_e K h2
set_option maxRecDepth 100000 in
set_option maxHeartbeats 4000000 in
theorem lw_c12 (K : ∀ w', LL w' → ab_H X kL_law 18 [some (.retAddr 0), some (.ref 0), some (.ref 54), some (.int (nI (i + 6)))] [] w' Q) (hX : X.length ≤ 384) (hi : i + 6 ≤ X.length) (h : LL w) : ab_H X kL_law 710 [some (.retAddr 0), some (.ref 0), some (.ref 54), some (.int (nI i))] [] w Q := by
  obtain ⟨⟨vx, x0⟩, vm, a54⟩ := lw_o h.1
  iterate 3 refine h_s rfl ?_
  refine h_k (y := 1) rfl rfl ?_
  refine h_Nadd (b := 1) rfl rfl rfl ?_
  refine h_ix _ rfl rfl (by omega) rfl (by omega) ?_
  iterate 2 refine h_s rfl ?_
  refine h_k (y := 2) rfl rfl ?_
  refine h_Nadd (b := 2) rfl rfl rfl ?_
  refine h_ix _ rfl rfl (by omega) rfl (by omega) ?_
  refine hq_v rfl rfl rfl x0 rfl rfl (p_len (p_reach _ _ h.1) rfl rfl h.2) (fun v1 w1 q1 => ?_)
  obtain ⟨r1, rfl, g1, q1⟩ := q1
  refine h_n (st2 := [_]) rfl ?_
  iterate 3 refine h_s rfl ?_
  refine h_k (y := 1) rfl rfl ?_
  refine h_Nadd (b := 1) rfl rfl rfl ?_
  refine h_ix _ rfl rfl (by omega) rfl (by omega) ?_
  iterate 2 refine h_s rfl ?_
  refine h_k (y := 2) rfl rfl ?_
  refine h_Nadd (b := 2) rfl rfl rfl ?_
  refine h_ix _ rfl rfl (by omega) rfl (by omega) ?_
  refine hq_v rfl rfl rfl (g1.trans a54) rfl rfl q1 (fun v2 w2 q2 => ?_)
  obtain ⟨rfl, h2⟩ := q2
  refine h_n (st2 := [_, _]) rfl ?_
  refine h2_eq rfl rfl (fun h738 => ?_) (fun h738 => absurd (rfl) h738)
  exact lw_e K h2
set_option maxRecDepth 100000 in
set_option maxHeartbeats 4000000 in
theorem lw_c13 (K : ∀ w', LL w' → ab_H X kL_law 18 [some (.retAddr 0), some (.ref 0), some (.ref 54), some (.int (nI (i + 6)))] [] w' Q) (hX : X.length ≤ 384) (hi : i + 6 ≤ X.length) (h : LL w) : ab_H X kL_law 743 [some (.retAddr 0), some (.ref 0), some (.ref 54), some (.int (nI i))] [] w Q := by
  obtain ⟨⟨vx, x0⟩, vm, a54⟩ := lw_o h.1
  iterate 3 refine h_s rfl ?_
  refine h_k (y := 1) rfl rfl ?_
  refine h_Nadd (b := 1) rfl rfl rfl ?_
  refine h_ix _ rfl rfl (by omega) rfl (by omega) ?_
  refine hq_v rfl rfl rfl x0 rfl rfl (p_len (p_off _ h.1) rfl rfl h.2) (fun v1 w1 q1 => ?_)
  obtain ⟨r1, rfl, g1, q1⟩ := q1
  refine h_n (st2 := [_]) rfl ?_
  iterate 3 refine h_s rfl ?_
  refine h_k (y := 1) rfl rfl ?_
  refine h_Nadd (b := 1) rfl rfl rfl ?_
  refine h_ix _ rfl rfl (by omega) rfl (by omega) ?_
  refine hq_v rfl rfl rfl (g1.trans a54) rfl rfl q1 (fun v2 w2 q2 => ?_)
  obtain ⟨rfl, h2⟩ := q2
  refine h_n (st2 := [_, _]) rfl ?_
  refine h2_eq rfl rfl (fun h761 => ?_) (fun h761 => absurd (rfl) h761)
  exact lw_e K h2
set_option maxRecDepth 100000 in
set_option maxHeartbeats 4000000 in
theorem lw_c14 (K : ∀ w', LL w' → ab_H X kL_law 18 [some (.retAddr 0), some (.ref 0), some (.ref 54), some (.int (nI (i + 6)))] [] w' Q) (hX : X.length ≤ 384) (hi : i + 6 ≤ X.length) (h : LL w) : ab_H X kL_law 766 [some (.retAddr 0), some (.ref 0), some (.ref 54), some (.int (nI i))] [] w Q := by
  obtain ⟨⟨vx, x0⟩, vm, a54⟩ := lw_o h.1
  iterate 3 refine h_s rfl ?_
  refine h_k (y := 1) rfl rfl ?_
  refine h_Nadd (b := 1) rfl rfl rfl ?_
  refine h_ix _ rfl rfl (by omega) rfl (by omega) ?_
  refine hq_v rfl rfl rfl x0 rfl rfl (p_len (p_hours _ h.1) rfl rfl h.2) (fun v1 w1 q1 => ?_)
  obtain ⟨r1, rfl, g1, q1⟩ := q1
  refine h_n (st2 := [_]) rfl ?_
  iterate 3 refine h_s rfl ?_
  refine h_k (y := 1) rfl rfl ?_
  refine h_Nadd (b := 1) rfl rfl rfl ?_
  refine h_ix _ rfl rfl (by omega) rfl (by omega) ?_
  refine hq_v rfl rfl rfl (g1.trans a54) rfl rfl q1 (fun v2 w2 q2 => ?_)
  obtain ⟨rfl, h2⟩ := q2
  refine h_n (st2 := [_, _]) rfl ?_
  refine h2_eq rfl rfl (fun h784 => ?_) (fun h784 => absurd (rfl) h784)
  exact lw_e K h2
set_option maxRecDepth 100000 in
set_option maxHeartbeats 4000000 in
theorem lw_c15 (K : ∀ w', LL w' → ab_H X kL_law 18 [some (.retAddr 0), some (.ref 0), some (.ref 54), some (.int (nI (i + 6)))] [] w' Q) (hX : X.length ≤ 384) (hi : i + 6 ≤ X.length) (h : LL w) : ab_H X kL_law 789 [some (.retAddr 0), some (.ref 0), some (.ref 54), some (.int (nI i))] [] w Q := by
  obtain ⟨⟨vx, x0⟩, vm, a54⟩ := lw_o h.1
  iterate 3 refine h_s rfl ?_
  refine h_k (y := 1) rfl rfl ?_
  refine h_Nadd (b := 1) rfl rfl rfl ?_
  refine h_ix _ rfl rfl (by omega) rfl (by omega) ?_
  refine hq_v rfl rfl rfl x0 rfl rfl (p_len (p_latest _ h.1) rfl rfl h.2) (fun v1 w1 q1 => ?_)
  obtain ⟨r1, rfl, g1, q1⟩ := q1
  refine h_n (st2 := [_]) rfl ?_
  iterate 3 refine h_s rfl ?_
  refine h_k (y := 1) rfl rfl ?_
  refine h_Nadd (b := 1) rfl rfl rfl ?_
  refine h_ix _ rfl rfl (by omega) rfl (by omega) ?_
  refine hq_v rfl rfl rfl (g1.trans a54) rfl rfl q1 (fun v2 w2 q2 => ?_)
  obtain ⟨rfl, h2⟩ := q2
  refine h_n (st2 := [_, _]) rfl ?_
  refine h2_eq rfl rfl (fun h807 => ?_) (fun h807 => absurd (rfl) h807)
  exact lw_e K h2
end LC
