/-! THE CLASS: its object, all that it keeps; findings; who lets in, lengths, who is cut off -/
def xObj (kp : Bool) : List Value := [.ref 1, .ref 12, .ref 23, .int (z01 kp), .ref 34, .ref 39, .ref 44, .ref 45]
def TapeX (w : ab_W) (tp : List Int32) (tn : Nat) : Prop := (∃ tk hr, w[39]? = some (.inl (4, [.ref 40, .int (nI tn), .ref 41, .ref 42, .ref 43, .int tk, .int hr]))) ∧ w[40]? = some (.inr tp) ∧ (tp.length = 120 ∧ tn ≤ 120) ∧ (∃ a, w[41]? = some (.inr a) ∧ a.length = 121) ∧ (∃ a, w[42]? = some (.inr a) ∧ a.length = 121) ∧ ∃ a, w[43]? = some (.inr a) ∧ a.length = 121
def SheetX (w : ab_W) (bo so nu : List Int32) : Prop := w[44]? = some (.inl (8, [.ref 46, .ref 48, .ref 50, .ref 52])) ∧ (∀ k, k < 4 → w[46 + 2 * k]? = some (.inl (3, [.int (bo.getD k 0), .int (so.getD k 0), .ref (47 + 2 * k)]))) ∧ (∀ k, k < 4 → ∃ xs, w[47 + 2 * k]? = some (.inr xs) ∧ xs.length = 40 ∧ ∀ j, j < 40 → xs.getD j 0 = nu.getD (40 * k + j) 0) ∧ bo.length = 4 ∧ so.length = 4 ∧ nu.length = 160
theorem TapeX.fr {w w1 : ab_W} {tp : List Int32} {tn : Nat} (T : TapeX w tp tn) (F : ∀ i, 39 ≤ i → i < 44 → w1[i]? = w[i]?) : TapeX w1 tp tn := by
  unfold TapeX
  rw [F 39 (by decide) (by decide), F 40 (by decide) (by decide), F 41 (by decide) (by decide), F 42 (by decide) (by decide), F 43 (by decide) (by decide)]
  exact T
theorem SheetX.fr {w w1 : ab_W} {bo so nu : List Int32} (T : SheetX w bo so nu) (F : ∀ i, 44 ≤ i → i < 54 → i ≠ 45 → w1[i]? = w[i]?) : SheetX w1 bo so nu := by
  obtain ⟨a, b, c, d⟩ := T
  refine ⟨(F _ (by omega) (by omega) (by omega)).trans a, fun k hk => (F _ (by omega) (by omega) (by omega)).trans (b k hk), fun k hk => ?_, d⟩
  obtain ⟨xs, h1, h2⟩ := c k hk
  exact ⟨xs, (F _ (by omega) (by omega) (by omega)).trans h1, h2⟩
/-- the class's object and all that it keeps -/
def XW (w : ab_W) (s : List Int32) (n : Nat) (st ks : List Int32) (kp : Bool) (tp : List Int32) (tn : Nat) (bo so nu : List Int32) : Prop :=
  w[0]? = some (.inl (5, xObj kp)) ∧ RowW w 1 s n ∧ (∃ s' n', RowW w 12 s' n') ∧ (∃ s' n', RowW w 23 s' n' ∧ (kp = true → s' = ks)) ∧ PlanX w ∧ TapeX w tp tn ∧ SheetX w bo so nu ∧ w[45]? = some (.inr st) ∧ st.length = 7
/-- what a call of the class tells and leaves -/
def XP (w : ab_W) (r : Int32) (s : List Int32) (n : Nat) (st ks : List Int32) (kp : Bool) (tp : List Int32) (tn : Nat) (bo so nu : List Int32) (v : Option Value) (w' : ab_W) : Prop :=
  v = some (.int r) ∧ XW w' s n st ks kp tp tn bo so nu ∧ ∀ i, 54 ≤ i → w'[i]? = w[i]?
/-- the houses that let f in, as a set of eight -/
def lqB (s : List Int32) (n f : Nat) (c : Int32) (h : Nat) : Bool := decide (h < n) && letB s h f c
theorem bs_8 {p : Nat → Bool} {n : Nat} (hn : n ≤ 8) : bs p n = bs (fun h => decide (h < n) && p h) 8 := by
  apply b_ext
  intro i hi
  rw [bt_bs _ _ _ (by omega) hi, bt_bs _ _ _ (by omega) hi]
  by_cases h : i < n
  · simp [h, show i < 8 by omega]
  · simp [h]
theorem lq_op (s : List Int32) (n f : Nat) (c : Int32) : (fun r => lqB s n f c (r / 2)) = opB s n f c := rfl
theorem ev_gB {n i : Nat} (hn : n ≤ 8) (h : i / 2 < n) : evB i = gB n i := by
  unfold evB gB
  rw [decide_eq_true h, decide_eq_true (show i < 16 by omega)]
theorem way_ev {s : List Int32} {n f : Nat} {c : Int32} (hn : n ≤ 8) (room : Nat) : wayL (adjB s n) (opB s n f c) evB room = wayL (adjB s n) (opB s n f c) (gB n) room :=
  wayL_cong room (fun i hi => ev_gB hn (by unfold opB at hi; simp at hi; exact hi.1))
section XJ
variable {X : List Int32} {w w1 : ab_W} {r : Nat} {s : List Int32} {n : Nat} {st ks : List Int32} {kp : Bool} {tp : List Int32} {tn : Nat} {bo so nu : List Int32}
theorem XW.up (R : XW w s n st ks kp tp tn bo so nu) {s1 : List Int32} {n1 : Nat} (A : RowW w1 1 s1 n1) (D : ∃ s' n', RowW w1 12 s' n') (P : PlanX w1) (F : ∀ i, (i = 0 ∨ (23 ≤ i ∧ i < 34) ∨ 39 ≤ i) → w1[i]? = w[i]?) : XW w1 s1 n1 st ks kp tp tn bo so nu := by
  obtain ⟨x0, XR, XD, ⟨sk, nk, XK, hkp⟩, XPl, XT, XS, x45, xl⟩ := R
  exact ⟨(F 0 (by omega)).trans x0, A, D, ⟨sk, nk, XK.fr (fun i _ _ => F i (by omega)), hkp⟩, P, XT.fr (fun i _ _ => F i (by omega)), XS.fr (fun i _ _ _ => F i (by omega)), (F 45 (by omega)).trans x45, xl⟩
/-- only the plan has changed -/
theorem XW.plan (R : XW w s n st ks kp tp tn bo so nu) (P : PlanX w1) (F : ∀ i, (i < 34 ∨ 39 ≤ i) → w1[i]? = w[i]?) : XW w1 s n st ks kp tp tn bo so nu := by
  obtain ⟨x0, XR, ⟨s', n', XD⟩, -⟩ := id R
  exact R.up (XR.fr (fun i _ _ => F i (by omega))) ⟨s', n', XD.fr (fun i _ _ => F i (by omega))⟩ P (fun i hi => F i (by omega))
/-- only the plan and the draft have changed -/
theorem XW.pd (R : XW w s n st ks kp tp tn bo so nu) {s' : List Int32} {n' : Nat} (D : RowW w1 12 s' n') (P : PlanX w1) (F : ∀ i, (i < 12 ∨ (23 ≤ i ∧ i < 34) ∨ 39 ≤ i) → w1[i]? = w[i]?) : XW w1 s n st ks kp tp tn bo so nu := by
  obtain ⟨x0, XR, -⟩ := id R
  exact R.up (XR.fr (fun i _ _ => F i (by omega))) ⟨s', n', D⟩ P (fun i hi => F i (by omega))
/-- only the row has changed -/
theorem XW.row (R : XW w s n st ks kp tp tn bo so nu) {s1 : List Int32} {n1 : Nat} (A : RowW w1 1 s1 n1) (F : ∀ i, (i < 1 ∨ 12 ≤ i) → w1[i]? = w[i]?) : XW w1 s1 n1 st ks kp tp tn bo so nu := by
  obtain ⟨x0, XR, ⟨s', n', XD⟩, -, XPl, -⟩ := id R
  exact R.up A ⟨s', n', XD.fr (fun i _ _ => F i (by omega))⟩ (XPl.fr (fun i _ _ => F i (by omega))) (fun i hi => F i (by omega))
theorem XP.same (R : XW w s n st ks kp tp tn bo so nu) (v : Int32) : XP w v s n st ks kp tp tn bo so nu (some (.int v)) w := ⟨rfl, R, fun _ _ => rfl⟩
set_option maxRecDepth 100000 in
set_option maxHeartbeats 4000000 in
theorem x_found (R : XW w s n st ks kp tp tn bo so nu) (f : Nat) (hf : f < 7) (x : Int32) (hx : -1000001 - x = nI f) : ab_Q X kX5_found [.ref 0, .int x] w (XP w x s n (bump st f) ks kp tp tn bo so nu) := by
  have R0 := R
  obtain ⟨x0, XR, ⟨sd, nd, XD⟩, ⟨sk, nk, XK, hkp⟩, XPl, XT, XS, x45, xl⟩ := R
  have r0 := XR.1
  have p0 := XPl.1
  have d0 := XD.1
  have hn : n ≤ 8 := XR.2.2.2.2.2.2.2
  show ab_H X kX5_found 0 [some (.ref 0), some (.int x), none] [] w _
  refine h_k (y := (-1000001)) rfl rfl ?_
  refine h_s rfl ?_
  refine h_s rfl ?_
  refine h_t hx ?_
  iterate 2 refine h_s rfl ?_
  refine h_gf rfl rfl rfl x0 rfl ?_
  iterate 2 refine h_s rfl ?_
  refine h_gf rfl rfl rfl x0 rfl ?_
  refine h_s rfl ?_
  refine h_c rfl (x_cell x45 (by omega) (j := f) (by omega)) ?_
  refine h_n (st2 := [_, _, _]) rfl ?_
  refine h_k (y := 1) rfl rfl ?_
  refine h_s rfl ?_
  refine hq_c rfl (x_put x45 (by omega) (j := f) (by omega) _) (fun v1 w1 q1 => ?_)
  obtain ⟨rfl, e1, f1⟩ := q1
  refine h_n (st2 := []) rfl ?_
  refine h_s rfl ?_
  refine h_ri rfl rfl ⟨rfl, ⟨(f1 _ (by decide)).trans x0, XR.fr (fun i _ _ => f1 i (by omega)), ⟨sd, nd, XD.fr (fun i _ _ => f1 i (by omega))⟩, ⟨sk, nk, XK.fr (fun i _ _ => f1 i (by omega)), hkp⟩, XPl.fr (fun i _ _ => f1 i (by omega)), XT.fr (fun i _ _ => f1 i (by omega)), XS.fr (fun i _ _ h => f1 i h), e1, by unfold bump; rw [List.length_set]; exact xl⟩, fun i hi => f1 i (by omega)⟩
set_option maxRecDepth 100000 in
set_option maxHeartbeats 4000000 in
theorem x_isVisit (x0 : w[0]? = some (.inl (5, xObj kp))) (XR : RowW w 1 s n) (a b : Int32) : ab_M X kX5_isVisit [.ref 0, .int a, .int b] w (some (.int (z01 (inN a n && inN b 24)))) w := by
  have r0 := XR.1
  show ab_G X kX5_isVisit 0 [some (.ref 0), some (.int a), some (.int b)] [] w _ _
  refine ab_s rfl ?_
  refine ab_gf rfl rfl rfl x0 rfl ?_
  refine ab_s rfl ?_
  refine ab_cv rfl rfl rfl r0 rfl rfl (x_rhas XR a) ?_
  refine ab_n (st2 := [_]) rfl ?_
  refine z1_eq rfl rfl (fun h8 => ?_) (fun h8 => ?_)
  · refine ab_k (y := 0) rfl rfl ?_
    exact ab_ri rfl (by rw [h8]; rfl)
  · refine ab_s rfl ?_
    refine ab_k (y := 24) rfl rfl ?_
    refine ab_c rfl (x_isBelow b 24 (by omega)) ?_
    refine ab_n (st2 := [_]) rfl ?_
    refine z1_eq rfl rfl (fun h17 => ?_) (fun h17 => ?_)
    · refine ab_k (y := 0) rfl rfl ?_
      exact ab_ri rfl (by rw [h8, h17]; rfl)
    · refine ab_k (y := 1) rfl rfl ?_
      refine ab_s rfl ?_
      exact ab_ri rfl (by rw [h8, h17]; rfl)
theorem x_lett (XR : RowW w r s n) (I : SI s n) {f : Nat} (hf : f < 8) (c : Int32) : ab_M X kX2_admitting [.ref r, .int (nI f), .int c, .int 0, .int 0] w (some (.int (bs (lqB s n f c) 8))) w := by
  have h := x_admitting (X := X) XR I hf c 0 0
  rw [bs_cong (q := fun h => letB s h f c) (fun i _ => by rw [lvG_00, letV_B]), bs_8 XR.2.2.2.2.2.2.2] at h
  exact h
theorem adj_s (s : List Int32) (n : Nat) : ∀ a b, a < 16 → b < 16 → adjB s n a b = adjB s n b a := fun a b _ _ => adjB_sym s n a b
theorem x_short (P : PlanJ w (adjB s n)) (hn : n ≤ 8) (f : Nat) (c : Int32) {room : Nat} (hr : room < 16) : ab_Q X kX1_shortest [.ref 34, .int (nI room), .int (bs (lqB s n f c) 8)] w (fun v w1 => v = some (.int (nI (wayL (adjB s n) (opB s n f c) (gB n) room))) ∧ PlanJ w1 (adjB s n) ∧ ∀ j, j ≠ 37 → w1[j]? = w[j]?) := by
  refine hq_m (x_shortest P (adj_s s n) (lqB s n f c) hr) (fun v w1 h => ?_)
  obtain ⟨e, F, la, h1, h2, -⟩ := h
  rw [lq_op, way_ev hn] at e
  exact ⟨e, P.la h1 h2 F, F⟩
set_option maxRecDepth 100000 in
set_option maxHeartbeats 4000000 in
theorem x_lengthHome (x0 : w[0]? = some (.inl (5, xObj kp))) (XR : RowW w 1 s n) (PJ : PlanJ w (adjB s n)) (I : SI s n) {f : Nat} (hf : f < n) (c : Int32) : ab_Q X kX5_lengthHome [.ref 0, .int (nI f), .int c] w (fun v w1 => v = some (.int (nI (wayF s n f c))) ∧ PlanJ w1 (adjB s n) ∧ ∀ j, j ≠ 37 → w1[j]? = w[j]?) := by
  have r0 := XR.1
  have p0 := PJ.1
  have hn : n ≤ 8 := XR.2.2.2.2.2.2.2
  have hh := homeN_lt I hn hf
  show ab_H X kX5_lengthHome 0 [some (.ref 0), some (.int (nI f)), some (.int c)] [] w _
  refine h_s rfl ?_
  refine h_gf rfl rfl rfl x0 rfl ?_
  refine h_s rfl ?_
  refine h_gf rfl rfl rfl x0 rfl ?_
  refine h_s rfl ?_
  refine h_cv rfl rfl rfl r0 rfl rfl (x_homeOf XR I hf) ?_
  refine h_n (st2 := [_, _]) rfl ?_
  refine h_s rfl ?_
  refine h_gf rfl rfl rfl x0 rfl ?_
  iterate 2 refine h_s rfl ?_
  refine h_k (y := 0) rfl rfl ?_
  refine h_k (y := 0) rfl rfl ?_
  refine h_cv rfl rfl rfl r0 rfl rfl (x_lett XR I (by omega) c) ?_
  refine h_n (st2 := [_, _, _]) rfl ?_
  refine hq_v rfl rfl rfl p0 rfl rfl (x_short PJ hn f c (room := homeN s f) (by omega)) (fun v1 w1 q1 => ?_)
  obtain ⟨rfl, PJ, f1⟩ := q1
  refine h_n (st2 := [_]) rfl ?_
  exact h_ri rfl rfl ⟨rfl, PJ, f1⟩
set_option maxRecDepth 100000 in
set_option maxHeartbeats 4000000 in
theorem x_cutOff (x0 : w[0]? = some (.inl (5, xObj kp))) (XPl : PlanX w) (XR : RowW w r s n) (hr : r + 11 ≤ 34) (hr0 : 0 < r) (I : SI s n) (c : Int32) : ab_Q X kX5_cutOff [.ref 0, .ref r, .int c] w (fun v w1 => v = some (.int (bs (fun f => offB s n f c) n)) ∧ PlanX w1 ∧ ∀ j, (j < 34 ∨ 39 ≤ j) → w1[j]? = w[j]?) := by
  have hn : n ≤ 8 := XR.2.2.2.2.2.2.2
  have r0 := XR.1
  have p0 := XPl.1
  show ab_H X kX5_cutOff 0 [some (.ref 0), some (.ref r), some (.int c), none, none, none] [] w _
  refine h_s rfl ?_
  refine h_gf rfl rfl rfl x0 rfl ?_
  refine h_s rfl ?_
  refine hq_v rfl rfl rfl p0 rfl rfl (x_draw XPl XR I hr) (fun v1 w1 q1 => ?_)
  obtain ⟨rfl, PJ, f1⟩ := q1
  refine h_n (st2 := []) rfl ?_
  refine h_k (y := 0) rfl rfl ?_
  refine h_s rfl ?_
  refine h_k (y := 0) rfl rfl ?_
  refine h_s rfl ?_
  refine h_loop0 n (fun i ls v => (∃ x, ls = [some (.ref 0), some (.ref r), some (.int c), some (.int (bs (fun f => offB s n f c) i)), some (.int (nI i)), x]) ∧ (∀ j, (j < 34 ∨ 39 ≤ j) → v[j]? = w[j]?) ∧ PlanJ v (adjB s n)) ⟨⟨none, rfl⟩, fun j hj => f1 j (by omega), PJ⟩ (fun i ls v hi hJ ih => ?_) (fun ls v hJ => ?_)
  · obtain ⟨⟨x, rfl⟩, F, PJ⟩ := hJ
    have x0 := (F 0 (by decide)).trans x0
    have XR := XR.fr (w1 := v) (fun j _ _ => F j (by omega))
    have r0 := XR.1
    have p0 := PJ.1
    have hh := homeN_lt I hn hi
    iterate 2 refine h_s rfl ?_
    refine h_gf rfl rfl rfl r0 rfl ?_
    refine hN_ge rfl rfl rfl rfl (by omega) (by omega) (fun h19 => absurd h19 (by omega)) (fun h19 => ?_)
    iterate 3 refine h_s rfl ?_
    refine h_k (y := 0) rfl rfl ?_
    refine h_k (y := 0) rfl rfl ?_
    refine h_cv rfl rfl rfl r0 rfl rfl (x_lett XR I (by omega) c) ?_
    refine h_n (st2 := [_]) rfl ?_
    iterate 2 refine h_s rfl ?_
    refine h_gf rfl rfl rfl x0 rfl ?_
    iterate 2 refine h_s rfl ?_
    refine h_cv rfl rfl rfl r0 rfl rfl (x_homeOf XR I hi) ?_
    refine h_n (st2 := [_, _]) rfl ?_
    refine h_s rfl ?_
    refine hq_v rfl rfl rfl p0 rfl rfl (x_short PJ hn i c (room := homeN s i) (by omega)) (fun v1 w1 q1 => ?_)
    obtain ⟨rfl, PJ, f1⟩ := q1
    refine h_n (st2 := [_]) rfl ?_
    obtain ⟨L, hL⟩ : ∃ L, wayL (adjB s n) (opB s n i c) (gB n) (homeN s i) = L := ⟨_, rfl⟩
    have hL16 : L ≤ 16 := by rw [← hL]; exact wayL_le _
    rw [hL]
    refine hM_ne rfl rfl rfl rfl (by omega) (fun h48 => ?_) (fun h48 => ?_)
    · refine h_ii rfl rfl rfl ?_
      refine h_s rfl ?_
      exact ih _ _ ⟨⟨_, by rw [bs_succ_f (p := fun f => offB s n f c) (n := i) (decide_eq_false (show ¬ wayL (adjB s n) (opB s n i c) (gB n) (homeN s i) = 0 by rw [hL]; exact h48))]; rfl⟩, fun j hj => (f1 j (by omega)).trans (F j hj), PJ⟩
    · refine h_s rfl ?_
      refine h_k (y := 1) rfl rfl ?_
      iterate 4 refine h_s rfl ?_
      refine h_ii rfl rfl rfl ?_
      refine h_s rfl ?_
      exact ih _ _ ⟨⟨_, by rw [← bs_succ_t (p := fun f => offB s n f c) (n := i) (decide_eq_true (show wayL (adjB s n) (opB s n i c) (gB n) (homeN s i) = 0 by rw [hL]; exact h48))]; rfl⟩, fun j hj => (f1 j (by omega)).trans (F j hj), PJ⟩
  · obtain ⟨⟨x, rfl⟩, F, PJ⟩ := hJ
    have XR := XR.fr (w1 := v) (fun j _ _ => F j (by omega))
    have r0 := XR.1
    iterate 2 refine h_s rfl ?_
    refine h_gf rfl rfl rfl r0 rfl ?_
    refine hN_ge rfl rfl rfl rfl (by omega) (by omega) (fun h19 => ?_) (fun h19 => absurd (by omega) h19)
    refine h_s rfl ?_
    exact h_ri rfl rfl ⟨rfl, PJ.x, F⟩
end XJ
