/-! THE LAW: its cases -/
section LC
variable {X : List Int32} {w : ab_W} {i : Nat} {Q : Option Value → ab_W → Prop}
set_option maxRecDepth 100000 in
set_option maxHeartbeats 4000000 in
theorem lw_c31 (K : ∀ w', LL w' → ab_H X kL_law 18 [some (.retAddr 0), some (.ref 0), some (.ref 54), some (.int (nI (i + 6)))] [] w' Q) (hX : X.length ≤ 384) (hi : i + 6 ≤ X.length) (h : LL w) : ab_H X kL_law 1207 [some (.retAddr 0), some (.ref 0), some (.ref 54), some (.int (nI i))] [] w Q := by
  obtain ⟨⟨vx, x0⟩, vm, a54⟩ := lw_o h.1
  iterate 3 refine h_s rfl ?_
  refine h_k (y := 1) rfl rfl ?_
  refine h_Nadd (b := 1) rfl rfl rfl ?_
  refine h_ix _ rfl rfl (by omega) rfl (by omega) ?_
  iterate 2 refine h_s rfl ?_
  refine h_k (y := 2) rfl rfl ?_
  refine h_Nadd (b := 2) rfl rfl rfl ?_
  refine h_ix _ rfl rfl (by omega) rfl (by omega) ?_
  refine hq_v rfl rfl rfl x0 rfl rfl (p_len (p_feed _ _ h.1) rfl rfl h.2) (fun v1 w1 q1 => ?_)
  obtain ⟨r1, rfl, g1, q1⟩ := q1
  refine h_n (st2 := [_]) rfl ?_
  iterate 3 refine h_s rfl ?_
  refine h_k (y := 1) rfl rfl ?_
  refine h_Nadd (b := 1) rfl rfl rfl ?_
  refine h_ix _ rfl rfl (by omega) rfl (by omega) ?_
  iterate 2 refine h_s rfl ?_
  refine h_k (y := 2) rfl rfl ?_
  refine h_Nadd (b := 2) rfl rfl rfl ?_
  refine h_ix _ rfl rfl (by omega) rfl (by omega) ?_
  refine hq_v rfl rfl rfl (g1.trans a54) rfl rfl q1 (fun v2 w2 q2 => ?_)
  obtain ⟨rfl, h2⟩ := q2
  refine h_n (st2 := [_, _]) rfl ?_
  refine h2_eq rfl rfl (fun h1235 => ?_) (fun h1235 => absurd (rfl) h1235)
  exact lw_e K h2
set_option maxRecDepth 100000 in
set_option maxHeartbeats 4000000 in
theorem lw_c32 (K : ∀ w', LL w' → ab_H X kL_law 18 [some (.retAddr 0), some (.ref 0), some (.ref 54), some (.int (nI (i + 6)))] [] w' Q) (hX : X.length ≤ 384) (hi : i + 6 ≤ X.length) (h : LL w) : ab_H X kL_law 1240 [some (.retAddr 0), some (.ref 0), some (.ref 54), some (.int (nI i))] [] w Q := by
  obtain ⟨⟨vx, x0⟩, vm, a54⟩ := lw_o h.1
  refine h_s rfl ?_
  refine hq_v rfl rfl rfl x0 rfl rfl (p_len (p_wipe h.1) rfl rfl h.2) (fun v1 w1 q1 => ?_)
  obtain ⟨r1, rfl, g1, q1⟩ := q1
  refine h_n (st2 := [_]) rfl ?_
  refine h_s rfl ?_
  refine hq_v rfl rfl rfl (g1.trans a54) rfl rfl q1 (fun v2 w2 q2 => ?_)
  obtain ⟨rfl, h2⟩ := q2
  refine h_n (st2 := [_, _]) rfl ?_
  refine h2_eq rfl rfl (fun h1248 => ?_) (fun h1248 => absurd (rfl) h1248)
  exact lw_e K h2
set_option maxRecDepth 100000 in
set_option maxHeartbeats 4000000 in
theorem lw_c33 (K : ∀ w', LL w' → ab_H X kL_law 18 [some (.retAddr 0), some (.ref 0), some (.ref 54), some (.int (nI (i + 6)))] [] w' Q) (hX : X.length ≤ 384) (hi : i + 6 ≤ X.length) (h : LL w) : ab_H X kL_law 1253 [some (.retAddr 0), some (.ref 0), some (.ref 54), some (.int (nI i))] [] w Q := by
  obtain ⟨⟨vx, x0⟩, vm, a54⟩ := lw_o h.1
  refine h_s rfl ?_
  refine hq_v rfl rfl rfl x0 rfl rfl (p_len (p_text h.1) rfl rfl h.2) (fun v1 w1 q1 => ?_)
  obtain ⟨r1, rfl, g1, q1⟩ := q1
  refine h_n (st2 := [_]) rfl ?_
  refine h_s rfl ?_
  refine hq_v rfl rfl rfl (g1.trans a54) rfl rfl q1 (fun v2 w2 q2 => ?_)
  obtain ⟨rfl, h2⟩ := q2
  refine h_n (st2 := [_, _]) rfl ?_
  refine h2_eq rfl rfl (fun h1261 => ?_) (fun h1261 => absurd (rfl) h1261)
  exact lw_e K h2
set_option maxRecDepth 100000 in
set_option maxHeartbeats 4000000 in
theorem lw_c34 (K : ∀ w', LL w' → ab_H X kL_law 18 [some (.retAddr 0), some (.ref 0), some (.ref 54), some (.int (nI (i + 6)))] [] w' Q) (hX : X.length ≤ 384) (hi : i + 6 ≤ X.length) (h : LL w) : ab_H X kL_law 1266 [some (.retAddr 0), some (.ref 0), some (.ref 54), some (.int (nI i))] [] w Q := by
  obtain ⟨⟨vx, x0⟩, vm, a54⟩ := lw_o h.1
  iterate 3 refine h_s rfl ?_
  refine h_k (y := 1) rfl rfl ?_
  refine h_Nadd (b := 1) rfl rfl rfl ?_
  refine h_ix _ rfl rfl (by omega) rfl (by omega) ?_
  iterate 2 refine h_s rfl ?_
  refine h_k (y := 2) rfl rfl ?_
  refine h_Nadd (b := 2) rfl rfl rfl ?_
  refine h_ix _ rfl rfl (by omega) rfl (by omega) ?_
  refine hq_v rfl rfl rfl x0 rfl rfl (p_len (p_hold _ _ h.1) rfl rfl h.2) (fun v1 w1 q1 => ?_)
  obtain ⟨r1, rfl, g1, q1⟩ := q1
  refine h_n (st2 := [_]) rfl ?_
  iterate 3 refine h_s rfl ?_
  refine h_k (y := 1) rfl rfl ?_
  refine h_Nadd (b := 1) rfl rfl rfl ?_
  refine h_ix _ rfl rfl (by omega) rfl (by omega) ?_
  iterate 2 refine h_s rfl ?_
  refine h_k (y := 2) rfl rfl ?_
  refine h_Nadd (b := 2) rfl rfl rfl ?_
  refine h_ix _ rfl rfl (by omega) rfl (by omega) ?_
  refine hq_v rfl rfl rfl (g1.trans a54) rfl rfl q1 (fun v2 w2 q2 => ?_)
  obtain ⟨rfl, h2⟩ := q2
  refine h_n (st2 := [_, _]) rfl ?_
  refine h2_eq rfl rfl (fun h1294 => ?_) (fun h1294 => absurd (rfl) h1294)
  exact lw_e K h2
set_option maxRecDepth 100000 in
set_option maxHeartbeats 4000000 in
theorem lw_c35 (K : ∀ w', LL w' → ab_H X kL_law 18 [some (.retAddr 0), some (.ref 0), some (.ref 54), some (.int (nI (i + 6)))] [] w' Q) (hX : X.length ≤ 384) (hi : i + 6 ≤ X.length) (h : LL w) : ab_H X kL_law 1299 [some (.retAddr 0), some (.ref 0), some (.ref 54), some (.int (nI i))] [] w Q := by
  obtain ⟨⟨vx, x0⟩, vm, a54⟩ := lw_o h.1
  iterate 3 refine h_s rfl ?_
  refine h_k (y := 1) rfl rfl ?_
  refine h_Nadd (b := 1) rfl rfl rfl ?_
  refine h_ix _ rfl rfl (by omega) rfl (by omega) ?_
  iterate 2 refine h_s rfl ?_
  refine h_k (y := 2) rfl rfl ?_
  refine h_Nadd (b := 2) rfl rfl rfl ?_
  refine h_ix _ rfl rfl (by omega) rfl (by omega) ?_
  refine hq_v rfl rfl rfl x0 rfl rfl (p_len (p_as _ _ h.1) rfl rfl h.2) (fun v1 w1 q1 => ?_)
  obtain ⟨r1, rfl, g1, q1⟩ := q1
  refine h_n (st2 := [_]) rfl ?_
  iterate 3 refine h_s rfl ?_
  refine h_k (y := 1) rfl rfl ?_
  refine h_Nadd (b := 1) rfl rfl rfl ?_
  refine h_ix _ rfl rfl (by omega) rfl (by omega) ?_
  iterate 2 refine h_s rfl ?_
  refine h_k (y := 2) rfl rfl ?_
  refine h_Nadd (b := 2) rfl rfl rfl ?_
  refine h_ix _ rfl rfl (by omega) rfl (by omega) ?_
  refine hq_v rfl rfl rfl (g1.trans a54) rfl rfl q1 (fun v2 w2 q2 => ?_)
  obtain ⟨rfl, h2⟩ := q2
  refine h_n (st2 := [_, _]) rfl ?_
  refine h2_eq rfl rfl (fun h1327 => ?_) (fun h1327 => absurd (rfl) h1327)
  exact lw_e K h2
set_option maxRecDepth 100000 in
set_option maxHeartbeats 4000000 in
theorem lw_c36 (K : ∀ w', LL w' → ab_H X kL_law 18 [some (.retAddr 0), some (.ref 0), some (.ref 54), some (.int (nI (i + 6)))] [] w' Q) (hX : X.length ≤ 384) (hi : i + 6 ≤ X.length) (h : LL w) : ab_H X kL_law 1332 [some (.retAddr 0), some (.ref 0), some (.ref 54), some (.int (nI i))] [] w Q := by
  obtain ⟨⟨vx, x0⟩, vm, a54⟩ := lw_o h.1
  iterate 3 refine h_s rfl ?_
  refine h_k (y := 1) rfl rfl ?_
  refine h_Nadd (b := 1) rfl rfl rfl ?_
  refine h_ix _ rfl rfl (by omega) rfl (by omega) ?_
  iterate 2 refine h_s rfl ?_
  refine h_k (y := 2) rfl rfl ?_
  refine h_Nadd (b := 2) rfl rfl rfl ?_
  refine h_ix _ rfl rfl (by omega) rfl (by omega) ?_
  iterate 2 refine h_s rfl ?_
  refine h_k (y := 3) rfl rfl ?_
  refine h_Nadd (b := 3) rfl rfl rfl ?_
  refine h_ix _ rfl rfl (by omega) rfl (by omega) ?_
  refine hq_v rfl rfl rfl x0 rfl rfl (p_len (p_sheet _ _ _ h.1) rfl rfl h.2) (fun v1 w1 q1 => ?_)
  obtain ⟨r1, rfl, g1, q1⟩ := q1
  refine h_n (st2 := [_]) rfl ?_
  iterate 3 refine h_s rfl ?_
  refine h_k (y := 1) rfl rfl ?_
  refine h_Nadd (b := 1) rfl rfl rfl ?_
  refine h_ix _ rfl rfl (by omega) rfl (by omega) ?_
  iterate 2 refine h_s rfl ?_
  refine h_k (y := 2) rfl rfl ?_
  refine h_Nadd (b := 2) rfl rfl rfl ?_
  refine h_ix _ rfl rfl (by omega) rfl (by omega) ?_
  iterate 2 refine h_s rfl ?_
  refine h_k (y := 3) rfl rfl ?_
  refine h_Nadd (b := 3) rfl rfl rfl ?_
  refine h_ix _ rfl rfl (by omega) rfl (by omega) ?_
  refine hq_v rfl rfl rfl (g1.trans a54) rfl rfl q1 (fun v2 w2 q2 => ?_)
  obtain ⟨rfl, h2⟩ := q2
  refine h_n (st2 := [_, _]) rfl ?_
  refine h2_eq rfl rfl (fun h1370 => ?_) (fun h1370 => absurd (rfl) h1370)
  exact lw_e K h2
set_option maxRecDepth 100000 in
set_option maxHeartbeats 4000000 in
theorem lw_c37 (K : ∀ w', LL w' → ab_H X kL_law 18 [some (.retAddr 0), some (.ref 0), some (.ref 54), some (.int (nI (i + 6)))] [] w' Q) (hX : X.length ≤ 384) (hi : i + 6 ≤ X.length) (h : LL w) : ab_H X kL_law 1375 [some (.retAddr 0), some (.ref 0), some (.ref 54), some (.int (nI i))] [] w Q := by
  obtain ⟨⟨vx, x0⟩, vm, a54⟩ := lw_o h.1
  iterate 3 refine h_s rfl ?_
  refine h_k (y := 1) rfl rfl ?_
  refine h_Nadd (b := 1) rfl rfl rfl ?_
  refine h_ix _ rfl rfl (by omega) rfl (by omega) ?_
  iterate 2 refine h_s rfl ?_
  refine h_k (y := 2) rfl rfl ?_
  refine h_Nadd (b := 2) rfl rfl rfl ?_
  refine h_ix _ rfl rfl (by omega) rfl (by omega) ?_
  iterate 2 refine h_s rfl ?_
  refine h_k (y := 3) rfl rfl ?_
  refine h_Nadd (b := 3) rfl rfl rfl ?_
  refine h_ix _ rfl rfl (by omega) rfl (by omega) ?_
  refine hq_v rfl rfl rfl x0 rfl rfl (p_len (p_write _ _ _ h.1) rfl rfl h.2) (fun v1 w1 q1 => ?_)
  obtain ⟨r1, rfl, g1, q1⟩ := q1
  refine h_n (st2 := [_]) rfl ?_
  iterate 3 refine h_s rfl ?_
  refine h_k (y := 1) rfl rfl ?_
  refine h_Nadd (b := 1) rfl rfl rfl ?_
  refine h_ix _ rfl rfl (by omega) rfl (by omega) ?_
  iterate 2 refine h_s rfl ?_
  refine h_k (y := 2) rfl rfl ?_
  refine h_Nadd (b := 2) rfl rfl rfl ?_
  refine h_ix _ rfl rfl (by omega) rfl (by omega) ?_
  iterate 2 refine h_s rfl ?_
  refine h_k (y := 3) rfl rfl ?_
  refine h_Nadd (b := 3) rfl rfl rfl ?_
  refine h_ix _ rfl rfl (by omega) rfl (by omega) ?_
  refine hq_v rfl rfl rfl (g1.trans a54) rfl rfl q1 (fun v2 w2 q2 => ?_)
  obtain ⟨rfl, h2⟩ := q2
  refine h_n (st2 := [_, _]) rfl ?_
  refine h2_eq rfl rfl (fun h1413 => ?_) (fun h1413 => absurd (rfl) h1413)
  exact lw_e K h2
set_option maxRecDepth 100000 in
set_option maxHeartbeats 4000000 in
theorem lw_c38 (K : ∀ w', LL w' → ab_H X kL_law 18 [some (.retAddr 0), some (.ref 0), some (.ref 54), some (.int (nI (i + 6)))] [] w' Q) (hX : X.length ≤ 384) (hi : i + 6 ≤ X.length) (h : LL w) : ab_H X kL_law 1418 [some (.retAddr 0), some (.ref 0), some (.ref 54), some (.int (nI i))] [] w Q := by
  obtain ⟨⟨vx, x0⟩, vm, a54⟩ := lw_o h.1
  iterate 3 refine h_s rfl ?_
  refine h_k (y := 1) rfl rfl ?_
  refine h_Nadd (b := 1) rfl rfl rfl ?_
  refine h_ix _ rfl rfl (by omega) rfl (by omega) ?_
  iterate 2 refine h_s rfl ?_
  refine h_k (y := 2) rfl rfl ?_
  refine h_Nadd (b := 2) rfl rfl rfl ?_
  refine h_ix _ rfl rfl (by omega) rfl (by omega) ?_
  iterate 2 refine h_s rfl ?_
  refine h_k (y := 3) rfl rfl ?_
  refine h_Nadd (b := 3) rfl rfl rfl ?_
  refine h_ix _ rfl rfl (by omega) rfl (by omega) ?_
  iterate 2 refine h_s rfl ?_
  refine h_k (y := 4) rfl rfl ?_
  refine h_Nadd (b := 4) rfl rfl rfl ?_
  refine h_ix _ rfl rfl (by omega) rfl (by omega) ?_
  iterate 2 refine h_s rfl ?_
  refine h_k (y := 5) rfl rfl ?_
  refine h_Nadd (b := 5) rfl rfl rfl ?_
  refine h_ix _ rfl rfl (by omega) rfl (by omega) ?_
  refine hq_v rfl rfl rfl x0 rfl rfl (p_len (p_copy _ _ _ _ _ h.1) rfl rfl h.2) (fun v1 w1 q1 => ?_)
  obtain ⟨r1, rfl, g1, q1⟩ := q1
  refine h_n (st2 := [_]) rfl ?_
  iterate 3 refine h_s rfl ?_
  refine h_k (y := 1) rfl rfl ?_
  refine h_Nadd (b := 1) rfl rfl rfl ?_
  refine h_ix _ rfl rfl (by omega) rfl (by omega) ?_
  iterate 2 refine h_s rfl ?_
  refine h_k (y := 2) rfl rfl ?_
  refine h_Nadd (b := 2) rfl rfl rfl ?_
  refine h_ix _ rfl rfl (by omega) rfl (by omega) ?_
  iterate 2 refine h_s rfl ?_
  refine h_k (y := 3) rfl rfl ?_
  refine h_Nadd (b := 3) rfl rfl rfl ?_
  refine h_ix _ rfl rfl (by omega) rfl (by omega) ?_
  iterate 2 refine h_s rfl ?_
  refine h_k (y := 4) rfl rfl ?_
  refine h_Nadd (b := 4) rfl rfl rfl ?_
  refine h_ix _ rfl rfl (by omega) rfl (by omega) ?_
  iterate 2 refine h_s rfl ?_
  refine h_k (y := 5) rfl rfl ?_
  refine h_Nadd (b := 5) rfl rfl rfl ?_
  refine h_ix _ rfl rfl (by omega) rfl (by omega) ?_
  refine hq_v rfl rfl rfl (g1.trans a54) rfl rfl q1 (fun v2 w2 q2 => ?_)
  obtain ⟨rfl, h2⟩ := q2
  refine h_n (st2 := [_, _]) rfl ?_
  refine h2_eq rfl rfl (fun h1476 => ?_) (fun h1476 => absurd (rfl) h1476)
  exact lw_e K h2
set_option maxRecDepth 100000 in
set_option maxHeartbeats 4000000 in
theorem lw_c39 (K : ∀ w', LL w' → ab_H X kL_law 18 [some (.retAddr 0), some (.ref 0), some (.ref 54), some (.int (nI (i + 6)))] [] w' Q) (hX : X.length ≤ 384) (hi : i + 6 ≤ X.length) (h : LL w) : ab_H X kL_law 1481 [some (.retAddr 0), some (.ref 0), some (.ref 54), some (.int (nI i))] [] w Q := by
  obtain ⟨⟨vx, x0⟩, vm, a54⟩ := lw_o h.1
  iterate 3 refine h_s rfl ?_
  refine h_k (y := 1) rfl rfl ?_
  refine h_Nadd (b := 1) rfl rfl rfl ?_
  refine h_ix _ rfl rfl (by omega) rfl (by omega) ?_
  refine hq_v rfl rfl rfl x0 rfl rfl (p_len (p_load _ h.1) rfl rfl h.2) (fun v1 w1 q1 => ?_)
  obtain ⟨r1, rfl, g1, q1⟩ := q1
  refine h_n (st2 := [_]) rfl ?_
  iterate 3 refine h_s rfl ?_
  refine h_k (y := 1) rfl rfl ?_
  refine h_Nadd (b := 1) rfl rfl rfl ?_
  refine h_ix _ rfl rfl (by omega) rfl (by omega) ?_
  refine hq_v rfl rfl rfl (g1.trans a54) rfl rfl q1 (fun v2 w2 q2 => ?_)
  obtain ⟨rfl, h2⟩ := q2
  refine h_n (st2 := [_, _]) rfl ?_
  refine h2_eq rfl rfl (fun h1499 => ?_) (fun h1499 => absurd (rfl) h1499)
  exact lw_e K h2
set_option maxRecDepth 100000 in
set_option maxHeartbeats 4000000 in
theorem lw_c40 (K : ∀ w', LL w' → ab_H X kL_law 18 [some (.retAddr 0), some (.ref 0), some (.ref 54), some (.int (nI (i + 6)))] [] w' Q) (hX : X.length ≤ 384) (hi : i + 6 ≤ X.length) (h : LL w) : ab_H X kL_law 1504 [some (.retAddr 0), some (.ref 0), some (.ref 54), some (.int (nI i))] [] w Q := by
  obtain ⟨⟨vx, x0⟩, vm, a54⟩ := lw_o h.1
  iterate 3 refine h_s rfl ?_
  refine h_k (y := 1) rfl rfl ?_
  refine h_Nadd (b := 1) rfl rfl rfl ?_
  refine h_ix _ rfl rfl (by omega) rfl (by omega) ?_
  iterate 2 refine h_s rfl ?_
  refine h_k (y := 2) rfl rfl ?_
  refine h_Nadd (b := 2) rfl rfl rfl ?_
  refine h_ix _ rfl rfl (by omega) rfl (by omega) ?_
  iterate 2 refine h_s rfl ?_
  refine h_k (y := 3) rfl rfl ?_
  refine h_Nadd (b := 3) rfl rfl rfl ?_
  refine h_ix _ rfl rfl (by omega) rfl (by omega) ?_
  refine hq_v rfl rfl rfl x0 rfl rfl (p_len (p_judge _ _ _ h.1) rfl rfl h.2) (fun v1 w1 q1 => ?_)
  obtain ⟨r1, rfl, g1, q1⟩ := q1
  refine h_n (st2 := [_]) rfl ?_
  iterate 3 refine h_s rfl ?_
  refine h_k (y := 1) rfl rfl ?_
  refine h_Nadd (b := 1) rfl rfl rfl ?_
  refine h_ix _ rfl rfl (by omega) rfl (by omega) ?_
  iterate 2 refine h_s rfl ?_
  refine h_k (y := 2) rfl rfl ?_
  refine h_Nadd (b := 2) rfl rfl rfl ?_
  refine h_ix _ rfl rfl (by omega) rfl (by omega) ?_
  iterate 2 refine h_s rfl ?_
  refine h_k (y := 3) rfl rfl ?_
  refine h_Nadd (b := 3) rfl rfl rfl ?_
  refine h_ix _ rfl rfl (by omega) rfl (by omega) ?_
  refine hq_v rfl rfl rfl (g1.trans a54) rfl rfl q1 (fun v2 w2 q2 => ?_)
  obtain ⟨rfl, h2⟩ := q2
  refine h_n (st2 := [_, _]) rfl ?_
  refine h2_eq rfl rfl (fun h1542 => ?_) (fun h1542 => absurd (rfl) h1542)
  exact lw_e K h2
set_option maxRecDepth 100000 in
set_option maxHeartbeats 4000000 in
theorem lw_c41 (K : ∀ w', LL w' → ab_H X kL_law 18 [some (.retAddr 0), some (.ref 0), some (.ref 54), some (.int (nI (i + 6)))] [] w' Q) (hX : X.length ≤ 384) (hi : i + 6 ≤ X.length) (h : LL w) : ab_H X kL_law 1547 [some (.retAddr 0), some (.ref 0), some (.ref 54), some (.int (nI i))] [] w Q := by
  obtain ⟨⟨vx, x0⟩, vm, a54⟩ := lw_o h.1
  refine h_s rfl ?_
  refine hq_v rfl rfl rfl x0 rfl rfl (p_len (p_image h.1) rfl rfl h.2) (fun v1 w1 q1 => ?_)
  obtain ⟨r1, rfl, g1, q1⟩ := q1
  refine h_n (st2 := [_]) rfl ?_
  refine h_s rfl ?_
  refine hq_v rfl rfl rfl (g1.trans a54) rfl rfl q1 (fun v2 w2 q2 => ?_)
  obtain ⟨rfl, h2⟩ := q2
  refine h_n (st2 := [_, _]) rfl ?_
  refine h2_eq rfl rfl (fun h1555 => ?_) (fun h1555 => absurd (rfl) h1555)
  exact lw_e K h2
set_option maxRecDepth 100000 in
set_option maxHeartbeats 4000000 in
theorem lw_c42 (K : ∀ w', LL w' → ab_H X kL_law 18 [some (.retAddr 0), some (.ref 0), some (.ref 54), some (.int (nI (i + 6)))] [] w' Q) (hX : X.length ≤ 384) (hi : i + 6 ≤ X.length) (h : LL w) : ab_H X kL_law 1560 [some (.retAddr 0), some (.ref 0), some (.ref 54), some (.int (nI i))] [] w Q := by
  obtain ⟨⟨vx, x0⟩, vm, a54⟩ := lw_o h.1
  refine h_s rfl ?_
  refine hq_v rfl rfl rfl x0 rfl rfl (p_len (p_undo h.1) rfl rfl h.2) (fun v1 w1 q1 => ?_)
  obtain ⟨r1, rfl, g1, q1⟩ := q1
  refine h_n (st2 := [_]) rfl ?_
  refine h_s rfl ?_
  refine hq_v rfl rfl rfl (g1.trans a54) rfl rfl q1 (fun v2 w2 q2 => ?_)
  obtain ⟨rfl, h2⟩ := q2
  refine h_n (st2 := [_, _]) rfl ?_
  refine h2_eq rfl rfl (fun h1568 => ?_) (fun h1568 => absurd (rfl) h1568)
  exact lw_e K h2
set_option maxRecDepth 100000 in
set_option maxHeartbeats 4000000 in
theorem lw_c43 (K : ∀ w', LL w' → ab_H X kL_law 18 [some (.retAddr 0), some (.ref 0), some (.ref 54), some (.int (nI (i + 6)))] [] w' Q) (hX : X.length ≤ 384) (hi : i + 6 ≤ X.length) (h : LL w) : ab_H X kL_law 1573 [some (.retAddr 0), some (.ref 0), some (.ref 54), some (.int (nI i))] [] w Q := by
  obtain ⟨⟨vx, x0⟩, vm, a54⟩ := lw_o h.1
  refine h_s rfl ?_
  refine hq_v rfl rfl rfl x0 rfl rfl (p_len (p_tear h.1) rfl rfl h.2) (fun v1 w1 q1 => ?_)
  obtain ⟨r1, rfl, g1, q1⟩ := q1
  refine h_n (st2 := [_]) rfl ?_
  refine h_s rfl ?_
  refine hq_v rfl rfl rfl (g1.trans a54) rfl rfl q1 (fun v2 w2 q2 => ?_)
  obtain ⟨rfl, h2⟩ := q2
  refine h_n (st2 := [_, _]) rfl ?_
  refine h2_eq rfl rfl (fun h1581 => ?_) (fun h1581 => absurd (rfl) h1581)
  exact lw_e K h2
set_option maxRecDepth 100000 in
set_option maxHeartbeats 4000000 in
theorem lw_c44 (K : ∀ w', LL w' → ab_H X kL_law 18 [some (.retAddr 0), some (.ref 0), some (.ref 54), some (.int (nI (i + 6)))] [] w' Q) (hX : X.length ≤ 384) (hi : i + 6 ≤ X.length) (h : LL w) : ab_H X kL_law 1586 [some (.retAddr 0), some (.ref 0), some (.ref 54), some (.int (nI i))] [] w Q := by
  obtain ⟨⟨vx, x0⟩, vm, a54⟩ := lw_o h.1
  iterate 3 refine h_s rfl ?_
  refine h_k (y := 1) rfl rfl ?_
  refine h_Nadd (b := 1) rfl rfl rfl ?_
  refine h_ix _ rfl rfl (by omega) rfl (by omega) ?_
  refine hq_v rfl rfl rfl x0 rfl rfl (p_len (p_count _ h.1) rfl rfl h.2) (fun v1 w1 q1 => ?_)
  obtain ⟨r1, rfl, g1, q1⟩ := q1
  refine h_n (st2 := [_]) rfl ?_
  iterate 3 refine h_s rfl ?_
  refine h_k (y := 1) rfl rfl ?_
  refine h_Nadd (b := 1) rfl rfl rfl ?_
  refine h_ix _ rfl rfl (by omega) rfl (by omega) ?_
  refine hq_v rfl rfl rfl (g1.trans a54) rfl rfl q1 (fun v2 w2 q2 => ?_)
  obtain ⟨rfl, h2⟩ := q2
  refine h_n (st2 := [_, _]) rfl ?_
  refine h2_eq rfl rfl (fun h1604 => ?_) (fun h1604 => absurd (rfl) h1604)
  exact lw_e K h2
set_option maxRecDepth 100000 in
set_option maxHeartbeats 4000000 in
theorem lw_c45 (K : ∀ w', LL w' → ab_H X kL_law 18 [some (.retAddr 0), some (.ref 0), some (.ref 54), some (.int (nI (i + 6)))] [] w' Q) (hX : X.length ≤ 384) (hi : i + 6 ≤ X.length) (h : LL w) : ab_H X kL_law 1609 [some (.retAddr 0), some (.ref 0), some (.ref 54), some (.int (nI i))] [] w Q := by
  obtain ⟨⟨vx, x0⟩, vm, a54⟩ := lw_o h.1
  iterate 3 refine h_s rfl ?_
  refine h_k (y := 1) rfl rfl ?_
  refine h_Nadd (b := 1) rfl rfl rfl ?_
  refine h_ix _ rfl rfl (by omega) rfl (by omega) ?_
  refine hq_v rfl rfl rfl x0 rfl rfl (p_len (p_status _ h.1) rfl rfl h.2) (fun v1 w1 q1 => ?_)
  obtain ⟨r1, rfl, g1, q1⟩ := q1
  refine h_n (st2 := [_]) rfl ?_
  iterate 3 refine h_s rfl ?_
  refine h_k (y := 1) rfl rfl ?_
  refine h_Nadd (b := 1) rfl rfl rfl ?_
  refine h_ix _ rfl rfl (by omega) rfl (by omega) ?_
  refine hq_v rfl rfl rfl (g1.trans a54) rfl rfl q1 (fun v2 w2 q2 => ?_)
  obtain ⟨rfl, h2⟩ := q2
  refine h_n (st2 := [_, _]) rfl ?_
  refine h2_eq rfl rfl (fun h1627 => ?_) (fun h1627 => absurd (rfl) h1627)
  exact lw_e K h2
end LC
