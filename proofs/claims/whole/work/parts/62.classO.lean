/-! THE CLASS: helps, needs, law -/
theorem sub0 {s : List Int32} {n f : Nat} {c : Int32} {m : Nat} (hm : m < 256) : (nI m &&& (bs (usB s n f c) 8 ^^^ (-1)) = 0) ↔ anyR (fun h => bt (nI m) h && !usB s n f c h) 8 = false := by
  have e : nI m &&& (bs (usB s n f c) 8 ^^^ (-1)) = bs (fun h => bt (nI m) h && !usB s n f c h) 8 := by
    conv => lhs; rw [nI_bs hm]
    exact bs_diff (by decide)
  rw [e, bs_zero (by decide), Bool.eq_false_iff, ne_eq, anyR_iff]
  constructor
  · rintro q ⟨h, hh, hb⟩
    rw [q h hh] at hb; cases hb
  · intro q h hh
    cases e : (bt (nI m) h && !usB s n f c h) with
    | false => rfl
    | true => exact absurd ⟨h, hh, e⟩ q
theorem or_set {s : List Int32} {n f : Nat} {c : Int32} {m : Nat} (hm : m < 256) : bs (lqB s n f c) 8 ||| nI m = bs (fun h => lqB s n f c h || (bt (nI m) h && decide (h < 8))) 8 := by
  conv => lhs; rw [nI_bs hm]
  rw [bs_or (by decide)]
  exact bs_cong (fun i hi => by rw [decide_eq_true hi, Bool.and_true])
theorem or_one {p : Nat → Bool} {i : Nat} (hi : i < 8) : bs p 8 ||| (1 : Int32) <<< (nI i &&& 31) = bs (fun h => p h || decide (h = i)) 8 := bs_or1 (by decide) hi (fun _ _ => rfl)
section LV
variable {X : List Int32} {w w1 : ab_W} {r : Nat} {s : List Int32} {n : Nat} {st ks : List Int32} {kp : Bool} {tp : List Int32} {tn : Nat} {bo so nu : List Int32}
theorem x_admAll (XR : RowW w r s n) (I : SI s n) {f : Nat} (hf : f < 8) (c : Int32) : ab_M X kX2_admitting [.ref r, .int (nI f), .int c, .int 0, .int 255] w (some (.int (bs (fun h => decide (h < n) && lwB s h f c true) 8))) w := by
  have h := x_admitting (X := X) XR I hf c 0 255
  have hn := XR.2.2.2.2.2.2.2
  rw [bs_cong (q := fun h => lwB s h f c true) (fun i hi => ?_), bs_8 hn] at h
  · exact h
  · show letV s i f c (lvG s 0 255 f i) = lwB s i f c true
    unfold lvG
    rw [b_255, decide_eq_true (show i < 8 by omega), if_pos rfl, b_0, if_neg (by decide), letV_w, b_or, b_sh (by omega) (by omega), decide_eq_true rfl, Bool.or_true]
theorem x_shortQ (P : PlanJ w (adjB s n)) (hn : n ≤ 8) {f : Nat} (hr : homeN s f < 16) (q : Nat → Bool) : ab_Q X kX1_shortest [.ref 34, .int (nI (homeN s f)), .int (bs q 8)] w (fun v w1 => (∃ L, L ≤ 16 ∧ decide (L = 0) = offQ s n f q ∧ v = some (.int (nI L))) ∧ PlanJ w1 (adjB s n) ∧ ∀ j, j ≠ 37 → w1[j]? = w[j]?) := by
  refine hq_m (x_shortest P (adj_s s n) q hr) (fun v w1 h => ?_)
  obtain ⟨e, F, la, h1, h2, -⟩ := h
  exact ⟨⟨_, wayL_le _, rfl, e⟩, P.la h1 h2 F, F⟩
theorem us_bs (hn : n ≤ 8) (f : Nat) (c : Int32) : bs (fun h => decide (h < n) && lwB s h f c true) 8 &&& (bs (lqB s n f c) 8 ^^^ (-1)) = bs (usB s n f c) 8 := by
  rw [bs_diff (by decide)]
  refine bs_cong (fun i _ => ?_)
  unfold lqB usB
  cases decide (i < n) <;> cases lwB s i f c true <;> cases letB s i f c <;> rfl
set_option maxRecDepth 100000 in
set_option maxHeartbeats 4000000 in
theorem x_fewest (x0 : w[0]? = some (.inl (5, xObj kp))) (XR : RowW w 1 s n) (PJ : PlanJ w (adjB s n)) (I : SI s n) {f : Nat} (hf : f < n) (c : Int32) : ab_Q X kX5_fewestLeaves [.ref 0, .int (nI f), .int c] w (fun v w1 => v = some (.int (needB s n f c).1) ∧ PlanJ w1 (adjB s n) ∧ ∀ j, j ≠ 37 → w1[j]? = w[j]?) := by
  have r0 := XR.1
  have p0 := PJ.1
  have hn : n ≤ 8 := XR.2.2.2.2.2.2.2
  have hl := XR.2.2.2.2.2.1
  have hh := homeN_lt I hn hf
  have x00 := x0
  have XR0 := XR
  have G : ∀ j, j ≠ 37 → w[j]? = w[j]? := fun _ _ => rfl
  show ab_H X kX5_fewestLeaves 0 [some (.ref 0), some (.int (nI f)), some (.int c), none, none, none, none, none, none] [] w _
  refine h_s rfl ?_
  refine h_gf rfl rfl rfl x0 rfl ?_
  refine h_s rfl ?_
  refine h_cv rfl rfl rfl r0 rfl rfl (x_homeOf XR I hf) ?_
  refine h_n (st2 := [_]) rfl ?_
  iterate 2 refine h_s rfl ?_
  refine h_gf rfl rfl rfl x0 rfl ?_
  iterate 2 refine h_s rfl ?_
  refine h_k (y := 0) rfl rfl ?_
  refine h_k (y := 0) rfl rfl ?_
  refine h_cv rfl rfl rfl r0 rfl rfl (x_lett XR I (by omega) c) ?_
  refine h_n (st2 := [_]) rfl ?_
  iterate 2 refine h_s rfl ?_
  refine h_gf rfl rfl rfl x0 rfl ?_
  iterate 2 refine h_s rfl ?_
  refine hq_v rfl rfl rfl p0 rfl rfl (x_shortQ PJ hn (f := f) (by omega) (lqB s n f c)) (fun v1 w1 q1 => ?_)
  obtain ⟨⟨L1, hL1, hQ1, rfl⟩, PJ, f1⟩ := q1
  have G : ∀ j, j ≠ 37 → w1[j]? = w[j]? := fun j hj => (f1 j hj).trans (G j hj)
  have x0 := (f1 0 (by decide)).trans x0
  have XR := XR.fr (w1 := w1) (fun i _ _ => f1 i (by omega))
  have r0 := XR.1
  have p0 := PJ.1
  refine h_n (st2 := [_]) rfl ?_
  refine hM_le rfl rfl rfl rfl (by omega) (fun h32 => ?_) (fun h32 => ?_)
  · refine h_s rfl ?_
    refine h_gf rfl rfl rfl x0 rfl ?_
    iterate 2 refine h_s rfl ?_
    refine h_k (y := 0) rfl rfl ?_
    refine h_k (y := 255) rfl rfl ?_
    refine h_cv rfl rfl rfl r0 rfl rfl (x_admAll XR I (by omega) c) ?_
    refine h_n (st2 := [_]) rfl ?_
    refine h_s rfl ?_
    refine h_k (y := (-1)) rfl rfl ?_
    refine h_s rfl ?_
    refine h_s rfl ?_
    refine h_t (us_bs hn f c) ?_
    iterate 2 refine h_s rfl ?_
    refine h_gf rfl rfl rfl x0 rfl ?_
    iterate 3 refine h_s rfl ?_
    refine h_s rfl ?_
    refine h_t (bs_or (by decide)) ?_
    refine hq_v rfl rfl rfl p0 rfl rfl (x_shortQ PJ hn (f := f) (by omega) (fun i => lqB s n f c i || usB s n f c i)) (fun v2 w2 q2 => ?_)
    obtain ⟨⟨L2, hL2, hQ2, rfl⟩, PJ, f2⟩ := q2
    have G : ∀ j, j ≠ 37 → w2[j]? = w[j]? := fun j hj => (f2 j hj).trans (G j hj)
    have x0 := (f2 0 (by decide)).trans x0
    have XR := XR.fr (w1 := w2) (fun i _ _ => f2 i (by omega))
    have r0 := XR.1
    have p0 := PJ.1
    refine h_n (st2 := [_]) rfl ?_
    refine hM_ne rfl rfl rfl rfl (by omega) (fun h70 => ?_) (fun h70 => ?_)
    · iterate 2 refine h_s rfl ?_
      refine h_k (y := 1) rfl rfl ?_
      refine h_s rfl ?_
      obtain ⟨U, hU, hUb, -⟩ := ones_set (p := usB s n f c) (m := 8) (by decide)
      have hoff0 : offQ s n f (lqB s n f c) = true := by rw [← hQ1]; exact decide_eq_true (by omega)
      have hoff1 : offQ s n f (fun i => lqB s n f c i || usB s n f c i) = false := by rw [← hQ2]; exact decide_eq_false h70
      obtain ⟨hF, hNB, hUi⟩ := need_k hl hn (by omega) hoff0 hoff1 hU hUb
      have hFi : ∀ i, (fwN cn8 (ndQ s n f c) U i) ≤ U ∨ (fwN cn8 (ndQ s n f c) U i) ≤ i := fun i => by
        induction i with
        | zero => exact Or.inl (Nat.le_refl _)
        | succ i ih =>
          rw [fwN]
          split
          · exact Or.inr (Nat.le_refl _)
          · exact ih.imp id (fun q => by omega)
      refine h_loop0 255 (fun i ls v => (∃ x8, ls = [some (.ref 0), some (.int (nI f)), some (.int c), some (.int (nI (homeN s f))), some (.int (bs (lqB s n f c) 8)), some (.int (bs (usB s n f c) 8)), some (.int (nI (fwN cn8 (ndQ s n f c) U i))), some (.int (nI (i + 1))), x8]) ∧ (∀ j, j ≠ 37 → v[j]? = w[j]?) ∧ PlanJ v (adjB s n)) ⟨⟨none, by rw [show (fwN cn8 (ndQ s n f c) U 0) = U from rfl, ← hUb]; rfl⟩, G, PJ⟩ (fun i ls v hi hJ ih => ?_) (fun ls v hJ => ?_)
      · obtain ⟨⟨x8, rfl⟩, G, PJ⟩ := hJ
        have x0 := (G 0 (by decide)).trans x00
        have XR := XR0.fr (w1 := v) (fun j _ _ => G j (by omega))
        have p0 := PJ.1
        have r0 := XR.1
        have hFi := hFi i
        have hF256 : (fwN cn8 (ndQ s n f c) U i) < 256 := by omega
        have hcn : ∀ m, cn8 m ≤ 8 := fun m => cntR_le _ _
        have hc1 := hcn (i + 1)
        have hc2 := hcn (fwN cn8 (ndQ s n f c) U i)
        refine h_s rfl ?_
        refine h_k (y := 256) rfl rfl ?_
        refine hN_ge (b := 256) rfl rfl rfl rfl (by omega) (by omega) (fun h87 => absurd h87 (by omega)) (fun h87 => ?_)
        refine h_s rfl ?_
        refine h_c rfl (x_bits (nI (i + 1))) ?_
        refine h_t (y := nI (cn8 (i + 1))) (pc_256 _ (by omega)) ?_
        refine h_n (st2 := [_]) rfl ?_
        refine h_s rfl ?_
        refine h_c rfl (x_bits (nI (fwN cn8 (ndQ s n f c) U i))) ?_
        refine h_t (y := nI (cn8 (fwN cn8 (ndQ s n f c) U i))) (pc_256 _ (by omega)) ?_
        refine h_n (st2 := [_, _]) rfl ?_
        refine hN_ge rfl rfl rfl rfl (by omega) (by omega) (fun h100 => ?_) (fun h100 => ?_)
        · refine h_k (y := 0) rfl rfl ?_
          iterate 3 refine h_s rfl ?_
          refine h_ii rfl rfl rfl ?_
          refine h_s rfl ?_
          exact ih _ _ ⟨⟨_, by rw [show fwN cn8 (ndQ s n f c) U (i + 1) = fwN cn8 (ndQ s n f c) U i from if_neg (fun q => by omega)]; rfl⟩, G, PJ⟩
        · refine h_k (y := 1) rfl rfl ?_
          iterate 6 refine h_s rfl ?_
          refine h_k (y := (-1)) rfl rfl ?_
          iterate 2 refine h_s rfl ?_
          refine h1_ne rfl rfl (fun h122 => ?_) (fun h122 => ?_)
          · refine h_ii rfl rfl rfl ?_
            refine h_s rfl ?_
            exact ih _ _ ⟨⟨_, by rw [show fwN cn8 (ndQ s n f c) U (i + 1) = fwN cn8 (ndQ s n f c) U i from if_neg (fun q => h122 (by have h1 := q.2; unfold ndQ at h1; rw [Bool.and_eq_true, Bool.not_eq_true', ← sub0 (by omega)] at h1; exact h1.1))]; rfl⟩, G, PJ⟩
          · refine h_s rfl ?_
            refine h_gf rfl rfl rfl x0 rfl ?_
            iterate 3 refine h_s rfl ?_
            refine h_s rfl ?_
            refine h_t (or_set (by omega)) ?_
            refine hq_v rfl rfl rfl p0 rfl rfl (x_shortQ PJ hn (f := f) (by omega) (fun h => lqB s n f c h || (bt (nI (i + 1)) h && decide (h < 8)))) (fun v2 w2 q2 => ?_)
            obtain ⟨⟨L2, hL2, hQ, rfl⟩, PJ, f2⟩ := q2
            have G : ∀ j, j ≠ 37 → w2[j]? = w[j]? := fun j hj => (f2 j hj).trans (G j hj)
            have x0 := (f2 0 (by decide)).trans x0
            have XR := XR.fr (w1 := w2) (fun i _ _ => f2 i (by omega))
            have r0 := XR.1
            have p0 := PJ.1
            refine h_n (st2 := [_]) rfl ?_
            refine hM_le rfl rfl rfl rfl (by omega) (fun h138 => ?_) (fun h138 => ?_)
            · refine h_ii rfl rfl rfl ?_
              refine h_s rfl ?_
              exact ih _ _ ⟨⟨_, by rw [show fwN cn8 (ndQ s n f c) U (i + 1) = fwN cn8 (ndQ s n f c) U i from if_neg (fun q => by have h1 := q.2; unfold ndQ at h1; rw [← hQ, decide_eq_true (show L2 = 0 by omega), Bool.not_true, Bool.and_false] at h1; cases h1)]; rfl⟩, G, PJ⟩
            · iterate 2 refine h_s rfl ?_
              refine h_ii rfl rfl rfl ?_
              refine h_s rfl ?_
              have hq : fwN cn8 (ndQ s n f c) U (i + 1) = i + 1 := if_pos ⟨by omega, by unfold ndQ; rw [← hQ, decide_eq_false (show ¬ L2 = 0 by omega), (sub0 (by omega)).mp h122]; rfl⟩
              exact ih _ _ ⟨⟨_, by rw [hq]; rfl⟩, G, PJ⟩
      · obtain ⟨⟨x8, rfl⟩, G, PJ⟩ := hJ
        refine h_s rfl ?_
        refine h_k (y := 256) rfl rfl ?_
        refine hN_ge (b := 256) rfl rfl rfl rfl (by omega) (by omega) (fun h87 => ?_) (fun h87 => absurd (by omega) h87)
        refine h_s rfl ?_
        exact h_ri rfl rfl ⟨by rw [hNB], PJ, G⟩
    · refine h_k (y := (-1)) rfl rfl ?_
      have hoff1 : offQ s n f (fun i => lqB s n f c i || usB s n f c i) = true := by rw [← hQ2]; exact decide_eq_true h70
      exact h_ri rfl rfl ⟨by rw [need_m hl hn (by omega) (by omega) hoff1], PJ, G⟩
  · refine h_k (y := 0) rfl rfl ?_
    have hoff0 : offQ s n f (lqB s n f c) = false := by rw [← hQ1]; exact decide_eq_false (by omega)
    exact h_ri rfl rfl ⟨by rw [need_0 hl hn (by omega) hoff0], PJ, G⟩
set_option maxRecDepth 100000 in
set_option maxHeartbeats 4000000 in
theorem x_needs_k (R : XW w s n st ks kp tp tn bo so nu) (I : SI s n) (f c : Nat) (hf : f < n) (hc : c < 24) (B : Int32) (hB : (needB s n f (nI c)).1 = B) : ab_Q X kX5_needs [.ref 0, .int (nI f), .int (nI c)] w (fun v w1 => if B < 0 then XP w (-1000004) s n (bump st 3) ks kp tp tn bo so nu v w1 else XP w B s n st ks kp tp tn bo so nu v w1) := by
  have R0 := R
  obtain ⟨x0, XR, ⟨sd, nd, XD⟩, ⟨sk, nk, XK, hkp⟩, XPl, XT, XS, x45, xl⟩ := R
  have r0 := XR.1
  have p0 := XPl.1
  have d0 := XD.1
  have hn : n ≤ 8 := XR.2.2.2.2.2.2.2
  have RC := R0
  show ab_H X kX5_needs 0 [some (.ref 0), some (.int (nI f)), some (.int (nI c)), none] [] w _
  iterate 3 refine h_s rfl ?_
  refine h_cv rfl rfl rfl x0 rfl rfl (x_isVisit x0 XR (nI f) (nI c)) ?_
  refine h_t (y := 1) (by rw [inN_n (by omega) (by omega), inN_n (by omega) (by omega)]; rfl) ?_
  refine h_n (st2 := [_]) rfl ?_
  iterate 2 refine h_s rfl ?_
  refine h_gf rfl rfl rfl x0 rfl ?_
  refine h_s rfl ?_
  refine h_gf rfl rfl rfl x0 rfl ?_
  refine hq_v rfl rfl rfl p0 rfl rfl (x_draw XPl XR I (by omega)) (fun v1 w1 q1 => ?_)
  obtain ⟨rfl, PJ, f1⟩ := q1
  have G : ∀ i, (i < 34 ∨ 39 ≤ i) → w1[i]? = w[i]? := fun i hi => f1 i (by omega)
  have x0 := (G 0 (by decide)).trans x0
  have XR := XR.fr (w1 := w1) (fun i _ _ => G i (by omega))
  have r0 := XR.1
  have p0 := PJ.1
  refine h_n (st2 := []) rfl ?_
  iterate 3 refine h_s rfl ?_
  refine hq_v rfl rfl rfl x0 rfl rfl (x_fewest x0 XR PJ I (f := f) (by omega) (nI c)) (fun v2 w2 q2 => ?_)
  obtain ⟨rfl, PJ, f2⟩ := q2
  have G : ∀ i, (i < 34 ∨ 39 ≤ i) → w2[i]? = w[i]? := fun i hi => (f2 i (by omega)).trans (G i hi)
  have x0 := (f2 0 (by decide)).trans x0
  have XR := XR.fr (w1 := w2) (fun i _ _ => f2 i (by omega))
  have r0 := XR.1
  have p0 := PJ.1
  refine h_n (st2 := [_]) rfl ?_
  rw [hB]
  iterate 2 refine h_s rfl ?_
  refine h1_ge rfl rfl (fun h35 => ?_) (fun h35 => ?_)
  · refine h_s rfl ?_
    refine h_ri rfl rfl ?_
    rw [if_neg (neg_n h35)]
    exact ⟨rfl, R0.plan PJ.x G, fun i hi => G i (by omega)⟩
  · refine h_s rfl ?_
    refine h_k (y := (-1000004)) rfl rfl ?_
    have RC := R0.plan PJ.x G
    refine hq_v rfl rfl rfl x0 rfl rfl (x_found RC 3 (by omega) _ (by decide)) (fun v9 w9 q9 => ?_)
    obtain ⟨rfl, q2, q3⟩ := q9
    refine h_n (st2 := [_]) rfl ?_
    refine h_s rfl ?_
    refine h_ri rfl rfl ?_
    rw [if_pos (neg_of h35)]
    exact ⟨rfl, q2, fun i hi => (q3 i hi).trans (G i (by omega))⟩
set_option maxRecDepth 100000 in
set_option maxHeartbeats 4000000 in
theorem x_law_k (R : XW w s n st ks kp tp tn bo so nu) (I : SI s n) (c : Nat) (hc : c < 24) (L : Option Nat) (hL : lawO s n (nI c) n = L) : ab_Q X kX5_law [.ref 0, .int (nI c)] w (fun v w1 => match L with | none => XP w (-1000004) s n (bump st 3) ks kp tp tn bo so nu v w1 | some a => XP w (nI a) s n st ks kp tp tn bo so nu v w1) := by
  have R0 := R
  obtain ⟨x0, XR, ⟨sd, nd, XD⟩, ⟨sk, nk, XK, hkp⟩, XPl, XT, XS, x45, xl⟩ := R
  have r0 := XR.1
  have p0 := XPl.1
  have d0 := XD.1
  have hn : n ≤ 8 := XR.2.2.2.2.2.2.2
  have RC := R0
  show ab_H X kX5_law 0 [some (.ref 0), some (.int (nI c)), none, none, none] [] w _
  refine h_s rfl ?_
  refine h_k (y := 24) rfl rfl ?_
  refine h_c rfl (x_isBelow (nI c) 24 (by decide)) ?_
  refine h_t (y := 1) (by rw [inN_n (by decide) (by omega)]; rfl) ?_
  refine h_n (st2 := [_]) rfl ?_
  iterate 2 refine h_s rfl ?_
  refine h_gf rfl rfl rfl x0 rfl ?_
  refine h_s rfl ?_
  refine h_gf rfl rfl rfl x0 rfl ?_
  refine hq_v rfl rfl rfl p0 rfl rfl (x_draw XPl XR I (by omega)) (fun v1 w1 q1 => ?_)
  obtain ⟨rfl, PJ, f1⟩ := q1
  have G : ∀ i, (i < 34 ∨ 39 ≤ i) → w1[i]? = w[i]? := fun i hi => f1 i (by omega)
  have x0 := (G 0 (by decide)).trans x0
  have XR := XR.fr (w1 := w1) (fun i _ _ => G i (by omega))
  have r0 := XR.1
  have p0 := PJ.1
  refine h_n (st2 := []) rfl ?_
  refine h_k (y := 0) rfl rfl ?_
  refine h_s rfl ?_
  refine h_k (y := 0) rfl rfl ?_
  refine h_s rfl ?_
  refine h_loop0 n (fun i ls v => (∃ a x, lawO s n (nI c) i = some a ∧ a ≤ 8 * i ∧ ls = [some (.ref 0), some (.int (nI c)), some (.int (nI a)), some (.int (nI i)), x]) ∧ (∀ j, (j < 34 ∨ 39 ≤ j) → v[j]? = w[j]?) ∧ PlanJ v (adjB s n)) ⟨⟨0, none, rfl, by omega, rfl⟩, G, PJ⟩ (fun i ls v hi hJ ih => ?_) (fun ls v hJ => ?_)
  · obtain ⟨⟨a, x, hA, ha, rfl⟩, G, PJ⟩ := hJ
    have x0 := (G 0 (by decide)).trans R0.1
    have XR := R0.2.1.fr (w1 := v) (fun j _ _ => G j (by omega))
    have p0 := PJ.1
    have r0 := XR.1
    obtain ⟨B, hB⟩ : ∃ B, (needB s n i (nI c)).1 = B := ⟨_, rfl⟩
    have hBk : B = -1 ∨ ∃ k, k < 256 ∧ B = nI k := by
      rcases bestD_ok (p := fun m => !offG s n i (nI c) (nI m)) (g := fun m => cntR (bt (nI m)) 8) (m := 2 ^ n) with q | ⟨k, k1, k2, _⟩
      · exact Or.inl (hB.symm.trans q)
      · exact Or.inr ⟨k, Nat.lt_of_lt_of_le k1 (pw_n n hn), hB.symm.trans k2⟩
    iterate 2 refine h_s rfl ?_
    refine h_gf rfl rfl rfl x0 rfl ?_
    refine h_gf rfl rfl rfl r0 rfl ?_
    refine hN_ge rfl rfl rfl rfl (by omega) (by omega) (fun h39 => absurd h39 (by omega)) (fun h39 => ?_)
    iterate 3 refine h_s rfl ?_
    refine hq_v rfl rfl rfl x0 rfl rfl (x_fewest x0 XR PJ I (f := i) (by omega) (nI c)) (fun v2 w2 q2 => ?_)
    obtain ⟨rfl, PJ, f2⟩ := q2
    have G : ∀ i, (i < 34 ∨ 39 ≤ i) → w2[i]? = w[i]? := fun i hi => (f2 i (by omega)).trans (G i hi)
    have x0 := (f2 0 (by decide)).trans x0
    have XR := XR.fr (w1 := w2) (fun i _ _ => f2 i (by omega))
    have r0 := XR.1
    have p0 := PJ.1
    refine h_n (st2 := [_]) rfl ?_
    rw [hB]
    iterate 2 refine h_s rfl ?_
    refine h1_ge rfl rfl (fun h52 => ?_) (fun h52 => ?_)
    · iterate 2 refine h_s rfl ?_
      have hBp : ¬ B < 0 := neg_n h52
      obtain ⟨k, hk, hBn⟩ : ∃ k, k < 256 ∧ B = nI k := hBk.resolve_left (fun q => hBp (by rw [q]; decide))
      refine h_c rfl (x_bits B) ?_
      refine h_t (y := nI (cntR (bt B) 8)) (by rw [hBn]; exact pc_256 k hk) ?_
      refine h_n (st2 := [_, _]) rfl ?_
      refine h_Nadd rfl rfl rfl ?_
      refine h_s rfl ?_
      refine h_ii rfl rfl rfl ?_
      refine h_s rfl ?_
      have h8 := cntR_le (bt B) 8
      have hA2 : lawO s n (nI c) (i + 1) = some (a + cntR (bt B) 8) := by rw [lawO, hA]; dsimp only; rw [hB, if_neg hBp]
      exact ih _ _ ⟨⟨_, _, hA2, by omega, rfl⟩, G, PJ⟩
    · refine h_s rfl ?_
      refine h_k (y := (-1000004)) rfl rfl ?_
      have RC := R0.plan PJ.x G
      refine hq_v rfl rfl rfl x0 rfl rfl (x_found RC 3 (by omega) _ (by decide)) (fun v9 w9 q9 => ?_)
      obtain ⟨rfl, q2, q3⟩ := q9
      refine h_n (st2 := [_]) rfl ?_
      have hA2 : lawO s n (nI c) (i + 1) = none := by rw [lawO, hA]; dsimp only; rw [hB, if_pos (neg_of h52)]
      have hN := lawO_none hA2 (n - (i + 1))
      rw [show i + 1 + (n - (i + 1)) = n by omega, hL] at hN
      subst hN
      exact h_ri rfl rfl ⟨rfl, q2, fun i hi => (q3 i hi).trans (G i (by omega))⟩
  · obtain ⟨⟨a, x, hA, ha, rfl⟩, G, PJ⟩ := hJ
    have x0 := (G 0 (by decide)).trans R0.1
    have XR := R0.2.1.fr (w1 := v) (fun j _ _ => G j (by omega))
    have r0 := XR.1
    have hLa : L = some a := hL.symm.trans hA
    subst hLa
    iterate 2 refine h_s rfl ?_
    refine h_gf rfl rfl rfl x0 rfl ?_
    refine h_gf rfl rfl rfl r0 rfl ?_
    refine hN_ge rfl rfl rfl rfl (by omega) (by omega) (fun h39 => ?_) (fun h39 => absurd (by omega) h39)
    refine h_s rfl ?_
    exact h_ri rfl rfl ⟨rfl, R0.plan PJ.x G, fun i hi => G i (by omega)⟩
set_option maxRecDepth 100000 in
set_option maxHeartbeats 4000000 in
theorem x_helps_z (R : XW w s n st ks kp tp tn bo so nu) (I : SI s n) (f c : Nat) (hf : f < n) (hc : c < 24) (ho : offB s n f (nI c) = false) : ab_Q X kX5_helps [.ref 0, .int (nI f), .int (nI c)] w (XP w 0 s n st ks kp tp tn bo so nu) := by
  have R0 := R
  obtain ⟨x0, XR, ⟨sd, nd, XD⟩, ⟨sk, nk, XK, hkp⟩, XPl, XT, XS, x45, xl⟩ := R
  have r0 := XR.1
  have p0 := XPl.1
  have d0 := XD.1
  have hn : n ≤ 8 := XR.2.2.2.2.2.2.2
  have RC := R0
  have hh := homeN_lt I hn hf
  show ab_H X kX5_helps 0 [some (.ref 0), some (.int (nI f)), some (.int (nI c)), none, none, none, none, none] [] w _
  iterate 3 refine h_s rfl ?_
  refine h_cv rfl rfl rfl x0 rfl rfl (x_isVisit x0 XR (nI f) (nI c)) ?_
  refine h_t (y := 1) (by rw [inN_n (by omega) (by omega), inN_n (by omega) (by omega)]; rfl) ?_
  refine h_n (st2 := [_]) rfl ?_
  iterate 2 refine h_s rfl ?_
  refine h_gf rfl rfl rfl x0 rfl ?_
  refine h_s rfl ?_
  refine h_gf rfl rfl rfl x0 rfl ?_
  refine hq_v rfl rfl rfl p0 rfl rfl (x_draw XPl XR I (by omega)) (fun v1 w1 q1 => ?_)
  obtain ⟨rfl, PJ, f1⟩ := q1
  have G : ∀ i, (i < 34 ∨ 39 ≤ i) → w1[i]? = w[i]? := fun i hi => f1 i (by omega)
  have x0 := (G 0 (by decide)).trans x0
  have XR := XR.fr (w1 := w1) (fun i _ _ => G i (by omega))
  have r0 := XR.1
  have p0 := PJ.1
  refine h_n (st2 := []) rfl ?_
  refine h_s rfl ?_
  refine h_gf rfl rfl rfl x0 rfl ?_
  refine h_s rfl ?_
  refine h_cv rfl rfl rfl r0 rfl rfl (x_homeOf XR I hf) ?_
  refine h_n (st2 := [_]) rfl ?_
  iterate 2 refine h_s rfl ?_
  refine h_gf rfl rfl rfl x0 rfl ?_
  iterate 2 refine h_s rfl ?_
  refine h_k (y := 0) rfl rfl ?_
  refine h_k (y := 0) rfl rfl ?_
  refine h_cv rfl rfl rfl r0 rfl rfl (x_lett XR I (show f < 8 by omega) (nI c)) ?_
  refine h_n (st2 := [_]) rfl ?_
  iterate 2 refine h_s rfl ?_
  refine h_gf rfl rfl rfl x0 rfl ?_
  iterate 2 refine h_s rfl ?_
  refine hq_v rfl rfl rfl p0 rfl rfl (x_shortQ PJ hn (f := f) (by omega) (lqB s n f (nI c))) (fun v2 w2 q2 => ?_)
  obtain ⟨⟨L2, hL2, hQ1, rfl⟩, PJ, f2⟩ := q2
  have G : ∀ i, (i < 34 ∨ 39 ≤ i) → w2[i]? = w[i]? := fun i hi => (f2 i (by omega)).trans (G i hi)
  have x0 := (f2 0 (by decide)).trans x0
  have XR := XR.fr (w1 := w2) (fun i _ _ => f2 i (by omega))
  have r0 := XR.1
  have p0 := PJ.1
  refine h_n (st2 := [_]) rfl ?_
  refine hM_le rfl rfl rfl rfl (by omega) (fun h59 => absurd h59 (fun q => by rw [offB_Q hn, ← hQ1, decide_eq_false_iff_not] at ho; omega)) (fun h59 => ?_)
  refine h_k (y := 0) rfl rfl ?_
  exact h_ri rfl rfl ⟨rfl, R0.plan PJ.x G, fun i hi => G i (by omega)⟩
set_option maxRecDepth 100000 in
set_option maxHeartbeats 4000000 in
theorem x_helps_k (R : XW w s n st ks kp tp tn bo so nu) (I : SI s n) (f c : Nat) (hf : f < n) (hc : c < 24) (ho : offB s n f (nI c) = true) : ab_Q X kX5_helps [.ref 0, .int (nI f), .int (nI c)] w (XP w (bs (fun h => !offG s n f (nI c) ((1 : Int32) <<< (nI h &&& 31))) n) s n st ks kp tp tn bo so nu) := by
  have R0 := R
  obtain ⟨x0, XR, ⟨sd, nd, XD⟩, ⟨sk, nk, XK, hkp⟩, XPl, XT, XS, x45, xl⟩ := R
  have r0 := XR.1
  have p0 := XPl.1
  have d0 := XD.1
  have hn : n ≤ 8 := XR.2.2.2.2.2.2.2
  have RC := R0
  show ab_H X kX5_helps 0 [some (.ref 0), some (.int (nI f)), some (.int (nI c)), none, none, none, none, none] [] w _
  have hh := homeN_lt I hn hf
  have hl := XR.2.2.2.2.2.1
  iterate 3 refine h_s rfl ?_
  refine h_cv rfl rfl rfl x0 rfl rfl (x_isVisit x0 XR (nI f) (nI c)) ?_
  refine h_t (y := 1) (by rw [inN_n (by omega) (by omega), inN_n (by omega) (by omega)]; rfl) ?_
  refine h_n (st2 := [_]) rfl ?_
  iterate 2 refine h_s rfl ?_
  refine h_gf rfl rfl rfl x0 rfl ?_
  refine h_s rfl ?_
  refine h_gf rfl rfl rfl x0 rfl ?_
  refine hq_v rfl rfl rfl p0 rfl rfl (x_draw XPl XR I (by omega)) (fun v1 w1 q1 => ?_)
  obtain ⟨rfl, PJ, f1⟩ := q1
  have G : ∀ i, (i < 34 ∨ 39 ≤ i) → w1[i]? = w[i]? := fun i hi => f1 i (by omega)
  have x0 := (G 0 (by decide)).trans x0
  have XR := XR.fr (w1 := w1) (fun i _ _ => G i (by omega))
  have r0 := XR.1
  have p0 := PJ.1
  refine h_n (st2 := []) rfl ?_
  refine h_s rfl ?_
  refine h_gf rfl rfl rfl x0 rfl ?_
  refine h_s rfl ?_
  refine h_cv rfl rfl rfl r0 rfl rfl (x_homeOf XR I hf) ?_
  refine h_n (st2 := [_]) rfl ?_
  iterate 2 refine h_s rfl ?_
  refine h_gf rfl rfl rfl x0 rfl ?_
  iterate 2 refine h_s rfl ?_
  refine h_k (y := 0) rfl rfl ?_
  refine h_k (y := 0) rfl rfl ?_
  refine h_cv rfl rfl rfl r0 rfl rfl (x_lett XR I (show f < 8 by omega) (nI c)) ?_
  refine h_n (st2 := [_]) rfl ?_
  iterate 2 refine h_s rfl ?_
  refine h_gf rfl rfl rfl x0 rfl ?_
  iterate 2 refine h_s rfl ?_
  refine hq_v rfl rfl rfl p0 rfl rfl (x_shortQ PJ hn (f := f) (by omega) (lqB s n f (nI c))) (fun v2 w2 q2 => ?_)
  obtain ⟨⟨L2, hL2, hQ1, rfl⟩, PJ, f2⟩ := q2
  have G : ∀ i, (i < 34 ∨ 39 ≤ i) → w2[i]? = w[i]? := fun i hi => (f2 i (by omega)).trans (G i hi)
  have x0 := (f2 0 (by decide)).trans x0
  have XR := XR.fr (w1 := w2) (fun i _ _ => f2 i (by omega))
  have r0 := XR.1
  have p0 := PJ.1
  refine h_n (st2 := [_]) rfl ?_
  refine hM_le rfl rfl rfl rfl (by omega) (fun h59 => ?_) (fun h59 => absurd (by rw [offB_Q hn, ← hQ1, decide_eq_true_eq] at ho; omega) h59)
  refine h_s rfl ?_
  refine h_gf rfl rfl rfl x0 rfl ?_
  iterate 2 refine h_s rfl ?_
  refine h_k (y := 0) rfl rfl ?_
  refine h_k (y := 255) rfl rfl ?_
  refine h_cv rfl rfl rfl r0 rfl rfl (x_admAll XR I (show f < 8 by omega) (nI c)) ?_
  refine h_n (st2 := [_]) rfl ?_
  refine h_s rfl ?_
  refine h_k (y := (-1)) rfl rfl ?_
  refine h_s rfl ?_
  refine h_s rfl ?_
  refine h_t (us_bs hn f (nI c)) ?_
  refine h_s rfl ?_
  refine h_k (y := 0) rfl rfl ?_
  refine h_s rfl ?_
  refine h_k (y := 0) rfl rfl ?_
  refine h_s rfl ?_
  refine h_loop0 8 (fun i ls v => ls = [some (.ref 0), some (.int (nI f)), some (.int (nI c)), some (.int (nI (homeN s f))), some (.int (bs (lqB s n f (nI c)) 8)), some (.int (bs (usB s n f (nI c)) 8)), some (.int (bs (fun h => usB s n f (nI c) h && !offQ s n f (fun y => lqB s n f (nI c) y || decide (y = h))) i)), some (.int (nI i))] ∧ (∀ j, (j < 34 ∨ 39 ≤ j) → v[j]? = w[j]?) ∧ PlanJ v (adjB s n)) ⟨rfl, G, PJ⟩ (fun i ls v hi hJ ih => ?_) (fun ls v hJ => ?_)
  · obtain ⟨rfl, G, PJ⟩ := hJ
    have x0 := (G 0 (by decide)).trans R0.1
    have XR := R0.2.1.fr (w1 := v) (fun j _ _ => G j (by omega))
    have p0 := PJ.1
    have r0 := XR.1
    refine h_s rfl ?_
    refine h_k (y := 8) rfl rfl ?_
    refine hN_ge (b := 8) rfl rfl rfl rfl (by omega) (by omega) (fun h94 => absurd h94 (by omega)) (fun h94 => ?_)
    iterate 2 refine h_s rfl ?_
    refine h_c rfl (x_isInB (usB s n f (nI c)) (by decide) hi) ?_
    refine h_n (st2 := [_]) rfl ?_
    refine hz_eq rfl rfl (fun h104 => ?_) (fun h104 => ?_)
    · refine h_ii rfl rfl rfl ?_
      refine h_s rfl ?_
      exact ih _ _ ⟨by rw [bs_succ_f (p := (fun h => usB s n f (nI c) h && !offQ s n f (fun y => lqB s n f (nI c) y || decide (y = h)))) (n := i) (by rw [h104]; rfl)]; rfl, G, PJ⟩
    · refine h_s rfl ?_
      refine h_gf rfl rfl rfl x0 rfl ?_
      iterate 2 refine h_s rfl ?_
      refine h_k (y := 1) rfl rfl ?_
      iterate 2 refine h_s rfl ?_
      refine h_s rfl ?_
      refine h_t (or_one hi) ?_
      refine hq_v rfl rfl rfl p0 rfl rfl (x_shortQ PJ hn (f := f) (by omega) (fun y => lqB s n f (nI c) y || decide (y = i))) (fun v2 w2 q2 => ?_)
      obtain ⟨⟨L2, hL2, hQ, rfl⟩, PJ, f2⟩ := q2
      have G : ∀ i, (i < 34 ∨ 39 ≤ i) → w2[i]? = w[i]? := fun i hi => (f2 i (by omega)).trans (G i hi)
      have x0 := (f2 0 (by decide)).trans x0
      have XR := XR.fr (w1 := w2) (fun i _ _ => f2 i (by omega))
      have r0 := XR.1
      have p0 := PJ.1
      refine h_n (st2 := [_]) rfl ?_
      refine hM_le rfl rfl rfl rfl (by omega) (fun h122 => ?_) (fun h122 => ?_)
      · refine h_ii rfl rfl rfl ?_
        refine h_s rfl ?_
        exact ih _ _ ⟨by rw [bs_succ_f (p := (fun h => usB s n f (nI c) h && !offQ s n f (fun y => lqB s n f (nI c) y || decide (y = h)))) (n := i) (by rw [← hQ, decide_eq_true (show L2 = 0 by omega)]; simp)]; rfl, G, PJ⟩
      · refine h_s rfl ?_
        refine h_k (y := 1) rfl rfl ?_
        iterate 4 refine h_s rfl ?_
        refine h_ii rfl rfl rfl ?_
        refine h_s rfl ?_
        exact ih _ _ ⟨by rw [← bs_succ_t (p := (fun h => usB s n f (nI c) h && !offQ s n f (fun y => lqB s n f (nI c) y || decide (y = h)))) (n := i) (by rw [h104, ← hQ, decide_eq_false (show ¬ L2 = 0 by omega)]; rfl)]; rfl, G, PJ⟩
  · obtain ⟨rfl, G, PJ⟩ := hJ
    refine h_s rfl ?_
    refine h_k (y := 8) rfl rfl ?_
    refine hN_ge (b := 8) rfl rfl rfl rfl (by omega) (by omega) (fun h94 => ?_) (fun h94 => absurd (by omega) h94)
    refine h_s rfl ?_
    refine h_ri rfl ?_ ⟨rfl, R0.plan PJ.x G, fun i hi => G i (by omega)⟩
    rw [bs_8 (p := fun h => !offG s n f (nI c) ((1 : Int32) <<< (nI h &&& 31))) hn]
    refine bs_cong (fun h hh8 => ?_)
    by_cases hhn : h < n
    · rw [decide_eq_true hhn, Bool.true_and, offG_Q hl hn (by omega)]
      cases hu : usB s n f (nI c) h with
      | true =>
        rw [Bool.true_and]
        refine congrArg (fun b => !b) (offQ_cong (fun y => ?_))
        refine congrArg (fun b => lqB s n f (nI c) y || b) ?_
        by_cases e : y = h
        · rw [decide_eq_true e, e, hu, b_sh (by omega) (by omega), decide_eq_true rfl]; rfl
        · rw [decide_eq_false e]
          by_cases hy : y < 32
          · rw [b_sh (by omega) hy, decide_eq_false e]; rfl
          · rw [b_big (by omega)]; rfl
      | false =>
        rw [Bool.false_and, offQ_cong (q' := lqB s n f (nI c)) (fun y => ?_), ← offB_Q hn, ho]
        · rfl
        · by_cases e : y = h
          · rw [e, hu, Bool.and_false, Bool.or_false]
          · by_cases hy : y < 32
            · rw [b_sh (by omega) hy, decide_eq_false e, Bool.false_and, Bool.or_false]
            · rw [b_big (by omega), Bool.false_and, Bool.or_false]
    · rw [decide_eq_false hhn, Bool.false_and]
      have : usB s n f (nI c) h = false := by unfold usB; rw [decide_eq_false hhn, Bool.false_and]
      rw [this, Bool.false_and]
end LV
