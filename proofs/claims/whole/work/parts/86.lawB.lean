/-! THE LAW: its cases -/
section LC
variable {X : List Int32} {w : ab_W} {i : Nat} {Q : Option Value → ab_W → Prop}
set_option maxRecDepth 100000 in
set_option maxHeartbeats 4000000 in
theorem lw_c16 (K : ∀ w', LL w' → ab_H X kL_law 18 [some (.retAddr 0), some (.ref 0), some (.ref 54), some (.int (nI (i + 6)))] [] w' Q) (hX : X.length ≤ 384) (hi : i + 6 ≤ X.length) (h : LL w) : ab_H X kL_law 812 [some (.retAddr 0), some (.ref 0), some (.ref 54), some (.int (nI i))] [] w Q := by
  obtain ⟨⟨vx, x0⟩, vm, a54⟩ := lw_o h.1
  iterate 3 refine h_s rfl ?_
  refine h_k (y := 1) rfl rfl ?_
  refine h_Nadd (b := 1) rfl rfl rfl ?_
  refine h_ix _ rfl rfl (by omega) rfl (by omega) ?_
  refine hq_v rfl rfl rfl x0 rfl rfl (p_len (p_best _ h.1) rfl rfl h.2) (fun v1 w1 q1 => ?_)
  obtain ⟨r1, rfl, g1, q1⟩ := q1
  refine h_n (st2 := [_]) rfl ?_
  iterate 3 refine h_s rfl ?_
  refine h_k (y := 1) rfl rfl ?_
  refine h_Nadd (b := 1) rfl rfl rfl ?_
  refine h_ix _ rfl rfl (by omega) rfl (by omega) ?_
  refine hq_v rfl rfl rfl (g1.trans a54) rfl rfl q1 (fun v2 w2 q2 => ?_)
  obtain ⟨rfl, h2⟩ := q2
  refine h_n (st2 := [_, _]) rfl ?_
  refine h2_eq rfl rfl (fun h830 => ?_) (fun h830 => absurd (rfl) h830)
  exact lw_e K h2
set_option maxRecDepth 100000 in
set_option maxHeartbeats 4000000 in
theorem lw_c17 (K : ∀ w', LL w' → ab_H X kL_law 18 [some (.retAddr 0), some (.ref 0), some (.ref 54), some (.int (nI (i + 6)))] [] w' Q) (hX : X.length ≤ 384) (hi : i + 6 ≤ X.length) (h : LL w) : ab_H X kL_law 835 [some (.retAddr 0), some (.ref 0), some (.ref 54), some (.int (nI i))] [] w Q := by
  obtain ⟨⟨vx, x0⟩, vm, a54⟩ := lw_o h.1
  iterate 3 refine h_s rfl ?_
  refine h_k (y := 1) rfl rfl ?_
  refine h_Nadd (b := 1) rfl rfl rfl ?_
  refine h_ix _ rfl rfl (by omega) rfl (by omega) ?_
  iterate 2 refine h_s rfl ?_
  refine h_k (y := 2) rfl rfl ?_
  refine h_Nadd (b := 2) rfl rfl rfl ?_
  refine h_ix _ rfl rfl (by omega) rfl (by omega) ?_
  refine hq_v rfl rfl rfl x0 rfl rfl (p_len (p_worth _ _ h.1) rfl rfl h.2) (fun v1 w1 q1 => ?_)
  obtain ⟨r1, rfl, g1, q1⟩ := q1
  refine h_n (st2 := [_]) rfl ?_
  iterate 3 refine h_s rfl ?_
  refine h_k (y := 1) rfl rfl ?_
  refine h_Nadd (b := 1) rfl rfl rfl ?_
  refine h_ix _ rfl rfl (by omega) rfl (by omega) ?_
  iterate 2 refine h_s rfl ?_
  refine h_k (y := 2) rfl rfl ?_
  refine h_Nadd (b := 2) rfl rfl rfl ?_
  refine h_ix _ rfl rfl (by omega) rfl (by omega) ?_
  refine hq_v rfl rfl rfl (g1.trans a54) rfl rfl q1 (fun v2 w2 q2 => ?_)
  obtain ⟨rfl, h2⟩ := q2
  refine h_n (st2 := [_, _]) rfl ?_
  refine h2_eq rfl rfl (fun h863 => ?_) (fun h863 => absurd (rfl) h863)
  exact lw_e K h2
set_option maxRecDepth 100000 in
set_option maxHeartbeats 4000000 in
theorem lw_c18 (K : ∀ w', LL w' → ab_H X kL_law 18 [some (.retAddr 0), some (.ref 0), some (.ref 54), some (.int (nI (i + 6)))] [] w' Q) (hX : X.length ≤ 384) (hi : i + 6 ≤ X.length) (h : LL w) : ab_H X kL_law 868 [some (.retAddr 0), some (.ref 0), some (.ref 54), some (.int (nI i))] [] w Q := by
  obtain ⟨⟨vx, x0⟩, vm, a54⟩ := lw_o h.1
  iterate 3 refine h_s rfl ?_
  refine h_k (y := 1) rfl rfl ?_
  refine h_Nadd (b := 1) rfl rfl rfl ?_
  refine h_ix _ rfl rfl (by omega) rfl (by omega) ?_
  iterate 2 refine h_s rfl ?_
  refine h_k (y := 2) rfl rfl ?_
  refine h_Nadd (b := 2) rfl rfl rfl ?_
  refine h_ix _ rfl rfl (by omega) rfl (by omega) ?_
  refine hq_v rfl rfl rfl x0 rfl rfl (p_len (p_helps _ _ h.1) rfl rfl h.2) (fun v1 w1 q1 => ?_)
  obtain ⟨r1, rfl, g1, q1⟩ := q1
  refine h_n (st2 := [_]) rfl ?_
  iterate 3 refine h_s rfl ?_
  refine h_k (y := 1) rfl rfl ?_
  refine h_Nadd (b := 1) rfl rfl rfl ?_
  refine h_ix _ rfl rfl (by omega) rfl (by omega) ?_
  iterate 2 refine h_s rfl ?_
  refine h_k (y := 2) rfl rfl ?_
  refine h_Nadd (b := 2) rfl rfl rfl ?_
  refine h_ix _ rfl rfl (by omega) rfl (by omega) ?_
  refine hq_v rfl rfl rfl (g1.trans a54) rfl rfl q1 (fun v2 w2 q2 => ?_)
  obtain ⟨rfl, h2⟩ := q2
  refine h_n (st2 := [_, _]) rfl ?_
  refine h2_eq rfl rfl (fun h896 => ?_) (fun h896 => absurd (rfl) h896)
  exact lw_e K h2
set_option maxRecDepth 100000 in
set_option maxHeartbeats 4000000 in
theorem lw_c19 (K : ∀ w', LL w' → ab_H X kL_law 18 [some (.retAddr 0), some (.ref 0), some (.ref 54), some (.int (nI (i + 6)))] [] w' Q) (hX : X.length ≤ 384) (hi : i + 6 ≤ X.length) (h : LL w) : ab_H X kL_law 901 [some (.retAddr 0), some (.ref 0), some (.ref 54), some (.int (nI i))] [] w Q := by
  obtain ⟨⟨vx, x0⟩, vm, a54⟩ := lw_o h.1
  iterate 3 refine h_s rfl ?_
  refine h_k (y := 1) rfl rfl ?_
  refine h_Nadd (b := 1) rfl rfl rfl ?_
  refine h_ix _ rfl rfl (by omega) rfl (by omega) ?_
  iterate 2 refine h_s rfl ?_
  refine h_k (y := 2) rfl rfl ?_
  refine h_Nadd (b := 2) rfl rfl rfl ?_
  refine h_ix _ rfl rfl (by omega) rfl (by omega) ?_
  refine hq_v rfl rfl rfl x0 rfl rfl (p_len (p_needs _ _ h.1) rfl rfl h.2) (fun v1 w1 q1 => ?_)
  obtain ⟨r1, rfl, g1, q1⟩ := q1
  refine h_n (st2 := [_]) rfl ?_
  iterate 3 refine h_s rfl ?_
  refine h_k (y := 1) rfl rfl ?_
  refine h_Nadd (b := 1) rfl rfl rfl ?_
  refine h_ix _ rfl rfl (by omega) rfl (by omega) ?_
  iterate 2 refine h_s rfl ?_
  refine h_k (y := 2) rfl rfl ?_
  refine h_Nadd (b := 2) rfl rfl rfl ?_
  refine h_ix _ rfl rfl (by omega) rfl (by omega) ?_
  refine hq_v rfl rfl rfl (g1.trans a54) rfl rfl q1 (fun v2 w2 q2 => ?_)
  obtain ⟨rfl, h2⟩ := q2
  refine h_n (st2 := [_, _]) rfl ?_
  refine h2_eq rfl rfl (fun h929 => ?_) (fun h929 => absurd (rfl) h929)
  exact lw_e K h2
set_option maxRecDepth 100000 in
set_option maxHeartbeats 4000000 in
theorem lw_c20 (K : ∀ w', LL w' → ab_H X kL_law 18 [some (.retAddr 0), some (.ref 0), some (.ref 54), some (.int (nI (i + 6)))] [] w' Q) (hX : X.length ≤ 384) (hi : i + 6 ≤ X.length) (h : LL w) : ab_H X kL_law 934 [some (.retAddr 0), some (.ref 0), some (.ref 54), some (.int (nI i))] [] w Q := by
  obtain ⟨⟨vx, x0⟩, vm, a54⟩ := lw_o h.1
  iterate 3 refine h_s rfl ?_
  refine h_k (y := 1) rfl rfl ?_
  refine h_Nadd (b := 1) rfl rfl rfl ?_
  refine h_ix _ rfl rfl (by omega) rfl (by omega) ?_
  refine hq_v rfl rfl rfl x0 rfl rfl (p_len (p_law _ h.1) rfl rfl h.2) (fun v1 w1 q1 => ?_)
  obtain ⟨r1, rfl, g1, q1⟩ := q1
  refine h_n (st2 := [_]) rfl ?_
  iterate 3 refine h_s rfl ?_
  refine h_k (y := 1) rfl rfl ?_
  refine h_Nadd (b := 1) rfl rfl rfl ?_
  refine h_ix _ rfl rfl (by omega) rfl (by omega) ?_
  refine hq_v rfl rfl rfl (g1.trans a54) rfl rfl q1 (fun v2 w2 q2 => ?_)
  obtain ⟨rfl, h2⟩ := q2
  refine h_n (st2 := [_, _]) rfl ?_
  refine h2_eq rfl rfl (fun h952 => ?_) (fun h952 => absurd (rfl) h952)
  exact lw_e K h2
set_option maxRecDepth 100000 in
set_option maxHeartbeats 4000000 in
theorem lw_c21 (K : ∀ w', LL w' → ab_H X kL_law 18 [some (.retAddr 0), some (.ref 0), some (.ref 54), some (.int (nI (i + 6)))] [] w' Q) (hX : X.length ≤ 384) (hi : i + 6 ≤ X.length) (h : LL w) : ab_H X kL_law 957 [some (.retAddr 0), some (.ref 0), some (.ref 54), some (.int (nI i))] [] w Q := by
  obtain ⟨⟨vx, x0⟩, vm, a54⟩ := lw_o h.1
  iterate 3 refine h_s rfl ?_
  refine h_k (y := 1) rfl rfl ?_
  refine h_Nadd (b := 1) rfl rfl rfl ?_
  refine h_ix _ rfl rfl (by omega) rfl (by omega) ?_
  iterate 2 refine h_s rfl ?_
  refine h_k (y := 2) rfl rfl ?_
  refine h_Nadd (b := 2) rfl rfl rfl ?_
  refine h_ix _ rfl rfl (by omega) rfl (by omega) ?_
  iterate 2 refine h_s rfl ?_
  refine h_k (y := 3) rfl rfl ?_
  refine h_Nadd (b := 3) rfl rfl rfl ?_
  refine h_ix _ rfl rfl (by omega) rfl (by omega) ?_
  refine hq_v rfl rfl rfl x0 rfl rfl (p_len (p_quarrel _ _ _ h.1) rfl rfl h.2) (fun v1 w1 q1 => ?_)
  obtain ⟨r1, rfl, g1, q1⟩ := q1
  refine h_n (st2 := [_]) rfl ?_
  iterate 3 refine h_s rfl ?_
  refine h_k (y := 1) rfl rfl ?_
  refine h_Nadd (b := 1) rfl rfl rfl ?_
  refine h_ix _ rfl rfl (by omega) rfl (by omega) ?_
  iterate 2 refine h_s rfl ?_
  refine h_k (y := 2) rfl rfl ?_
  refine h_Nadd (b := 2) rfl rfl rfl ?_
  refine h_ix _ rfl rfl (by omega) rfl (by omega) ?_
  iterate 2 refine h_s rfl ?_
  refine h_k (y := 3) rfl rfl ?_
  refine h_Nadd (b := 3) rfl rfl rfl ?_
  refine h_ix _ rfl rfl (by omega) rfl (by omega) ?_
  refine hq_v rfl rfl rfl (g1.trans a54) rfl rfl q1 (fun v2 w2 q2 => ?_)
  obtain ⟨rfl, h2⟩ := q2
  refine h_n (st2 := [_, _]) rfl ?_
  refine h2_eq rfl rfl (fun h995 => ?_) (fun h995 => absurd (rfl) h995)
  exact lw_e K h2
set_option maxRecDepth 100000 in
set_option maxHeartbeats 4000000 in
theorem lw_c22 (K : ∀ w', LL w' → ab_H X kL_law 18 [some (.retAddr 0), some (.ref 0), some (.ref 54), some (.int (nI (i + 6)))] [] w' Q) (hX : X.length ≤ 384) (hi : i + 6 ≤ X.length) (h : LL w) : ab_H X kL_law 1000 [some (.retAddr 0), some (.ref 0), some (.ref 54), some (.int (nI i))] [] w Q := by
  obtain ⟨⟨vx, x0⟩, vm, a54⟩ := lw_o h.1
  iterate 3 refine h_s rfl ?_
  refine h_k (y := 1) rfl rfl ?_
  refine h_Nadd (b := 1) rfl rfl rfl ?_
  refine h_ix _ rfl rfl (by omega) rfl (by omega) ?_
  refine hq_v rfl rfl rfl x0 rfl rfl (p_len (p_ring _ h.1) rfl rfl h.2) (fun v1 w1 q1 => ?_)
  obtain ⟨r1, rfl, g1, q1⟩ := q1
  refine h_n (st2 := [_]) rfl ?_
  iterate 3 refine h_s rfl ?_
  refine h_k (y := 1) rfl rfl ?_
  refine h_Nadd (b := 1) rfl rfl rfl ?_
  refine h_ix _ rfl rfl (by omega) rfl (by omega) ?_
  refine hq_v rfl rfl rfl (g1.trans a54) rfl rfl q1 (fun v2 w2 q2 => ?_)
  obtain ⟨rfl, h2⟩ := q2
  refine h_n (st2 := [_, _]) rfl ?_
  refine h2_eq rfl rfl (fun h1018 => ?_) (fun h1018 => absurd (rfl) h1018)
  exact lw_e K h2
set_option maxRecDepth 100000 in
set_option maxHeartbeats 4000000 in
theorem lw_c23 (K : ∀ w', LL w' → ab_H X kL_law 18 [some (.retAddr 0), some (.ref 0), some (.ref 54), some (.int (nI (i + 6)))] [] w' Q) (hX : X.length ≤ 384) (hi : i + 6 ≤ X.length) (h : LL w) : ab_H X kL_law 1023 [some (.retAddr 0), some (.ref 0), some (.ref 54), some (.int (nI i))] [] w Q := by
  obtain ⟨⟨vx, x0⟩, vm, a54⟩ := lw_o h.1
  iterate 3 refine h_s rfl ?_
  refine h_k (y := 1) rfl rfl ?_
  refine h_Nadd (b := 1) rfl rfl rfl ?_
  refine h_ix _ rfl rfl (by omega) rfl (by omega) ?_
  iterate 2 refine h_s rfl ?_
  refine h_k (y := 2) rfl rfl ?_
  refine h_Nadd (b := 2) rfl rfl rfl ?_
  refine h_ix _ rfl rfl (by omega) rfl (by omega) ?_
  iterate 2 refine h_s rfl ?_
  refine h_k (y := 3) rfl rfl ?_
  refine h_Nadd (b := 3) rfl rfl rfl ?_
  refine h_ix _ rfl rfl (by omega) rfl (by omega) ?_
  iterate 2 refine h_s rfl ?_
  refine h_k (y := 4) rfl rfl ?_
  refine h_Nadd (b := 4) rfl rfl rfl ?_
  refine h_ix _ rfl rfl (by omega) rfl (by omega) ?_
  refine hq_v rfl rfl rfl x0 rfl rfl (p_len (p_share _ _ _ _ h.1) rfl rfl h.2) (fun v1 w1 q1 => ?_)
  obtain ⟨r1, rfl, g1, q1⟩ := q1
  refine h_n (st2 := [_]) rfl ?_
  iterate 3 refine h_s rfl ?_
  refine h_k (y := 1) rfl rfl ?_
  refine h_Nadd (b := 1) rfl rfl rfl ?_
  refine h_ix _ rfl rfl (by omega) rfl (by omega) ?_
  iterate 2 refine h_s rfl ?_
  refine h_k (y := 2) rfl rfl ?_
  refine h_Nadd (b := 2) rfl rfl rfl ?_
  refine h_ix _ rfl rfl (by omega) rfl (by omega) ?_
  iterate 2 refine h_s rfl ?_
  refine h_k (y := 3) rfl rfl ?_
  refine h_Nadd (b := 3) rfl rfl rfl ?_
  refine h_ix _ rfl rfl (by omega) rfl (by omega) ?_
  iterate 2 refine h_s rfl ?_
  refine h_k (y := 4) rfl rfl ?_
  refine h_Nadd (b := 4) rfl rfl rfl ?_
  refine h_ix _ rfl rfl (by omega) rfl (by omega) ?_
  refine hq_v rfl rfl rfl (g1.trans a54) rfl rfl q1 (fun v2 w2 q2 => ?_)
  obtain ⟨rfl, h2⟩ := q2
  refine h_n (st2 := [_, _]) rfl ?_
  refine h2_eq rfl rfl (fun h1071 => ?_) (fun h1071 => absurd (rfl) h1071)
  exact lw_e K h2
set_option maxRecDepth 100000 in
set_option maxHeartbeats 4000000 in
theorem lw_c24 (K : ∀ w', LL w' → ab_H X kL_law 18 [some (.retAddr 0), some (.ref 0), some (.ref 54), some (.int (nI (i + 6)))] [] w' Q) (hX : X.length ≤ 384) (hi : i + 6 ≤ X.length) (h : LL w) : ab_H X kL_law 1076 [some (.retAddr 0), some (.ref 0), some (.ref 54), some (.int (nI i))] [] w Q := by
  obtain ⟨⟨vx, x0⟩, vm, a54⟩ := lw_o h.1
  iterate 3 refine h_s rfl ?_
  refine h_k (y := 1) rfl rfl ?_
  refine h_Nadd (b := 1) rfl rfl rfl ?_
  refine h_ix _ rfl rfl (by omega) rfl (by omega) ?_
  refine hq_v rfl rfl rfl x0 rfl rfl (p_len (p_beds _ h.1) rfl rfl h.2) (fun v1 w1 q1 => ?_)
  obtain ⟨r1, rfl, g1, q1⟩ := q1
  refine h_n (st2 := [_]) rfl ?_
  iterate 3 refine h_s rfl ?_
  refine h_k (y := 1) rfl rfl ?_
  refine h_Nadd (b := 1) rfl rfl rfl ?_
  refine h_ix _ rfl rfl (by omega) rfl (by omega) ?_
  refine hq_v rfl rfl rfl (g1.trans a54) rfl rfl q1 (fun v2 w2 q2 => ?_)
  obtain ⟨rfl, h2⟩ := q2
  refine h_n (st2 := [_, _]) rfl ?_
  refine h2_eq rfl rfl (fun h1094 => ?_) (fun h1094 => absurd (rfl) h1094)
  exact lw_e K h2
set_option maxRecDepth 100000 in
set_option maxHeartbeats 4000000 in
theorem lw_c25 (K : ∀ w', LL w' → ab_H X kL_law 18 [some (.retAddr 0), some (.ref 0), some (.ref 54), some (.int (nI (i + 6)))] [] w' Q) (hX : X.length ≤ 384) (hi : i + 6 ≤ X.length) (h : LL w) : ab_H X kL_law 1099 [some (.retAddr 0), some (.ref 0), some (.ref 54), some (.int (nI i))] [] w Q := by
  obtain ⟨⟨vx, x0⟩, vm, a54⟩ := lw_o h.1
  refine h_s rfl ?_
  refine hq_v rfl rfl rfl x0 rfl rfl (p_len (p_swaps h.1) rfl rfl h.2) (fun v1 w1 q1 => ?_)
  obtain ⟨r1, rfl, g1, q1⟩ := q1
  refine h_n (st2 := [_]) rfl ?_
  refine h_s rfl ?_
  refine hq_v rfl rfl rfl (g1.trans a54) rfl rfl q1 (fun v2 w2 q2 => ?_)
  obtain ⟨rfl, h2⟩ := q2
  refine h_n (st2 := [_, _]) rfl ?_
  refine h2_eq rfl rfl (fun h1107 => ?_) (fun h1107 => absurd (rfl) h1107)
  exact lw_e K h2
set_option maxRecDepth 100000 in
set_option maxHeartbeats 4000000 in
theorem lw_c26 (K : ∀ w', LL w' → ab_H X kL_law 18 [some (.retAddr 0), some (.ref 0), some (.ref 54), some (.int (nI (i + 6)))] [] w' Q) (hX : X.length ≤ 384) (hi : i + 6 ≤ X.length) (h : LL w) : ab_H X kL_law 1112 [some (.retAddr 0), some (.ref 0), some (.ref 54), some (.int (nI i))] [] w Q := by
  obtain ⟨⟨vx, x0⟩, vm, a54⟩ := lw_o h.1
  refine h_s rfl ?_
  refine hq_v rfl rfl rfl x0 rfl rfl (p_len (p_fire h.1) rfl rfl h.2) (fun v1 w1 q1 => ?_)
  obtain ⟨r1, rfl, g1, q1⟩ := q1
  refine h_n (st2 := [_]) rfl ?_
  refine h_s rfl ?_
  refine hq_v rfl rfl rfl (g1.trans a54) rfl rfl q1 (fun v2 w2 q2 => ?_)
  obtain ⟨rfl, h2⟩ := q2
  refine h_n (st2 := [_, _]) rfl ?_
  refine h2_eq rfl rfl (fun h1120 => ?_) (fun h1120 => absurd (rfl) h1120)
  exact lw_e K h2
set_option maxRecDepth 100000 in
set_option maxHeartbeats 4000000 in
theorem lw_c27 (K : ∀ w', LL w' → ab_H X kL_law 18 [some (.retAddr 0), some (.ref 0), some (.ref 54), some (.int (nI (i + 6)))] [] w' Q) (hX : X.length ≤ 384) (hi : i + 6 ≤ X.length) (h : LL w) : ab_H X kL_law 1125 [some (.retAddr 0), some (.ref 0), some (.ref 54), some (.int (nI i))] [] w Q := by
  obtain ⟨⟨vx, x0⟩, vm, a54⟩ := lw_o h.1
  iterate 3 refine h_s rfl ?_
  refine h_k (y := 1) rfl rfl ?_
  refine h_Nadd (b := 1) rfl rfl rfl ?_
  refine h_ix _ rfl rfl (by omega) rfl (by omega) ?_
  refine hq_v rfl rfl rfl x0 rfl rfl (p_len (p_open _ h.1) rfl rfl h.2) (fun v1 w1 q1 => ?_)
  obtain ⟨r1, rfl, g1, q1⟩ := q1
  refine h_n (st2 := [_]) rfl ?_
  iterate 3 refine h_s rfl ?_
  refine h_k (y := 1) rfl rfl ?_
  refine h_Nadd (b := 1) rfl rfl rfl ?_
  refine h_ix _ rfl rfl (by omega) rfl (by omega) ?_
  refine hq_v rfl rfl rfl (g1.trans a54) rfl rfl q1 (fun v2 w2 q2 => ?_)
  obtain ⟨rfl, h2⟩ := q2
  refine h_n (st2 := [_, _]) rfl ?_
  refine h2_eq rfl rfl (fun h1143 => ?_) (fun h1143 => absurd (rfl) h1143)
  exact lw_e K h2
set_option maxRecDepth 100000 in
set_option maxHeartbeats 4000000 in
theorem lw_c28 (K : ∀ w', LL w' → ab_H X kL_law 18 [some (.retAddr 0), some (.ref 0), some (.ref 54), some (.int (nI (i + 6)))] [] w' Q) (hX : X.length ≤ 384) (hi : i + 6 ≤ X.length) (h : LL w) : ab_H X kL_law 1148 [some (.retAddr 0), some (.ref 0), some (.ref 54), some (.int (nI i))] [] w Q := by
  obtain ⟨⟨vx, x0⟩, vm, a54⟩ := lw_o h.1
  refine h_s rfl ?_
  refine hq_v rfl rfl rfl x0 rfl rfl (p_len (p_shift h.1) rfl rfl h.2) (fun v1 w1 q1 => ?_)
  obtain ⟨r1, rfl, g1, q1⟩ := q1
  refine h_n (st2 := [_]) rfl ?_
  refine h_s rfl ?_
  refine hq_v rfl rfl rfl (g1.trans a54) rfl rfl q1 (fun v2 w2 q2 => ?_)
  obtain ⟨rfl, h2⟩ := q2
  refine h_n (st2 := [_, _]) rfl ?_
  refine h2_eq rfl rfl (fun h1156 => ?_) (fun h1156 => absurd (rfl) h1156)
  exact lw_e K h2
set_option maxRecDepth 100000 in
set_option maxHeartbeats 4000000 in
theorem lw_c29 (K : ∀ w', LL w' → ab_H X kL_law 18 [some (.retAddr 0), some (.ref 0), some (.ref 54), some (.int (nI (i + 6)))] [] w' Q) (hX : X.length ≤ 384) (hi : i + 6 ≤ X.length) (h : LL w) : ab_H X kL_law 1161 [some (.retAddr 0), some (.ref 0), some (.ref 54), some (.int (nI i))] [] w Q := by
  obtain ⟨⟨vx, x0⟩, vm, a54⟩ := lw_o h.1
  iterate 3 refine h_s rfl ?_
  refine h_k (y := 1) rfl rfl ?_
  refine h_Nadd (b := 1) rfl rfl rfl ?_
  refine h_ix _ rfl rfl (by omega) rfl (by omega) ?_
  refine hq_v rfl rfl rfl x0 rfl rfl (p_len (p_gossip _ h.1) rfl rfl h.2) (fun v1 w1 q1 => ?_)
  obtain ⟨r1, rfl, g1, q1⟩ := q1
  refine h_n (st2 := [_]) rfl ?_
  iterate 3 refine h_s rfl ?_
  refine h_k (y := 1) rfl rfl ?_
  refine h_Nadd (b := 1) rfl rfl rfl ?_
  refine h_ix _ rfl rfl (by omega) rfl (by omega) ?_
  refine hq_v rfl rfl rfl (g1.trans a54) rfl rfl q1 (fun v2 w2 q2 => ?_)
  obtain ⟨rfl, h2⟩ := q2
  refine h_n (st2 := [_, _]) rfl ?_
  refine h2_eq rfl rfl (fun h1179 => ?_) (fun h1179 => absurd (rfl) h1179)
  exact lw_e K h2
set_option maxRecDepth 100000 in
set_option maxHeartbeats 4000000 in
theorem lw_c30 (K : ∀ w', LL w' → ab_H X kL_law 18 [some (.retAddr 0), some (.ref 0), some (.ref 54), some (.int (nI (i + 6)))] [] w' Q) (hX : X.length ≤ 384) (hi : i + 6 ≤ X.length) (h : LL w) : ab_H X kL_law 1184 [some (.retAddr 0), some (.ref 0), some (.ref 54), some (.int (nI i))] [] w Q := by
  obtain ⟨⟨vx, x0⟩, vm, a54⟩ := lw_o h.1
  iterate 3 refine h_s rfl ?_
  refine h_k (y := 1) rfl rfl ?_
  refine h_Nadd (b := 1) rfl rfl rfl ?_
  refine h_ix _ rfl rfl (by omega) rfl (by omega) ?_
  refine hq_v rfl rfl rfl x0 rfl rfl (p_len (p_seed _ h.1) rfl rfl h.2) (fun v1 w1 q1 => ?_)
  obtain ⟨r1, rfl, g1, q1⟩ := q1
  refine h_n (st2 := [_]) rfl ?_
  iterate 3 refine h_s rfl ?_
  refine h_k (y := 1) rfl rfl ?_
  refine h_Nadd (b := 1) rfl rfl rfl ?_
  refine h_ix _ rfl rfl (by omega) rfl (by omega) ?_
  refine hq_v rfl rfl rfl (g1.trans a54) rfl rfl q1 (fun v2 w2 q2 => ?_)
  obtain ⟨rfl, h2⟩ := q2
  refine h_n (st2 := [_, _]) rfl ?_
  refine h2_eq rfl rfl (fun h1202 => ?_) (fun h1202 => absurd (rfl) h1202)
  exact lw_e K h2
end LC
