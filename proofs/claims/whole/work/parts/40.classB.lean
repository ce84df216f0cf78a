/-! THE CLASS: a house -/
/-- the fields of the house h of the row s -/
def hL (s : List Int32) (h : Nat) : List Value := [.int (nI h), .int (fld s h 0), .int (fld s h 1), .int (fld s h 2), .int (fld s h 3), .int (fld s h 4), .int (fld s h 5), .int (fld s h 6), .int (fld s h 7)]
theorem hL_set {s : List Int32} {h j : Nat} {v : Int32} (hl : s.length = 90) (hh : h < 8) (hj : j < 8) : hL (s.set (2 + 8 * h + j) v) h = (hL s h).set (j + 1) (.int v) := by
  have e : ∀ k', k' < 8 → fld (s.set (2 + 8 * h + j) v) h k' = if h = h ∧ k' = j then v else fld s h k' := fun k' hk' => fld_set s v hl hh hj hk'
  unfold hL
  rw [e 0 (by decide), e 1 (by decide), e 2 (by decide), e 3 (by decide), e 4 (by decide), e 5 (by decide), e 6 (by decide), e 7 (by decide)]
  rcases (show j = 0 ∨ j = 1 ∨ j = 2 ∨ j = 3 ∨ j = 4 ∨ j = 5 ∨ j = 6 ∨ j = 7 by omega) with rfl | rfl | rfl | rfl | rfl | rfl | rfl | rfl <;> simp
theorem hL_ne {s : List Int32} {h h' j : Nat} {v : Int32} (hl : s.length = 90) (hh : h < 8) (hj : j < 8) (hne : ¬ h' = h) : hL (s.set (2 + 8 * h + j) v) h' = hL s h' := by
  have e : ∀ k', k' < 8 → fld (s.set (2 + 8 * h + j) v) h' k' = fld s h' k' := fun k' hk' => by rw [fld_set s v hl hh hj hk', if_neg (fun q => hne q.1)]
  unfold hL
  rw [e 0 (by decide), e 1 (by decide), e 2 (by decide), e 3 (by decide), e 4 (by decide), e 5 (by decide), e 6 (by decide), e 7 (by decide)]
theorem hL_eq {s s' : List Int32} {h : Nat} (e : ∀ k, k < 8 → fld s' h k = fld s h k) : hL s' h = hL s h := by
  unfold hL
  rw [e 0 (by decide), e 1 (by decide), e 2 (by decide), e 3 (by decide), e 4 (by decide), e 5 (by decide), e 6 (by decide), e 7 (by decide)]
theorem nle_i (a b : Int32) : (a ≤ b) = ¬ b < a := propext Int32.not_lt.symm
theorem c19_i (c : Int32) : (c ≤ 19) = (c < 20) := by
  rw [le_iff, lt_iff]
  exact propext ⟨fun q => Int.lt_of_le_of_lt q (by decide), fun q => Int.le_of_lt_add_one q⟩
theorem c22_i (c : Int32) : (22 ≤ c) = (21 < c) := by
  rw [le_iff, lt_iff]
  exact propext ⟨fun q => Int.lt_of_lt_of_le (by decide) q, fun q => q⟩
def hourV (fr to c : Int32) : Bool := if fr ≤ to then decide (fr ≤ c) && decide (c ≤ to) else decide (fr ≤ c) || !decide (to < c)
/-- who is let in, by kind, hours, plain leave -/
def admV (k : Int32) (c : Int32) (ih ah as no : Bool) : Bool := if k = 1 then as else if k = 2 then ih else if k = 3 then true else if k = 4 then as || decide (c = 12) else if k = 5 then ah && (decide (7 ≤ c) && decide (c ≤ 19)) else if k = 6 then as && !no else ah
/-- a house lets in, if its leaves were lv -/
def letV (s : List Int32) (h f : Nat) (c lv : Int32) : Bool := if h = f then true else admV (fld s h 0) c (hourB s h c) (bt lv f && hourB s h c) (bt lv f && hourB s h c && decide (c < 20)) (bt (fld s h 5) f)
theorem letV_B (s : List Int32) (h f : Nat) (c : Int32) : letV s h f c (fld s h 2) = letB s h f c := rfl
theorem letV_set {s : List Int32} {h f : Nat} {c lv : Int32} (hl : s.length = 90) (hh : h < 8) : letB (s.set (2 + 8 * h + 2) lv) h f c = letV s h f c lv := by
  rw [← letV_B]
  have e : ∀ k', k' < 8 → fld (s.set (2 + 8 * h + 2) lv) h k' = if h = h ∧ k' = 2 then lv else fld s h k' := fun k' hk' => fld_set s lv hl hh (by decide) hk'
  unfold letV hourB
  rw [e 0 (by decide), e 2 (by decide), e 3 (by decide), e 4 (by decide), e 5 (by decide)]
  simp
section XB
variable {X : List Int32} {w : ab_W} {q : Nat} {s : List Int32} {h : Nat}
set_option maxRecDepth 100000 in
set_option maxHeartbeats 4000000 in
theorem x_tell (hw : w[q]? = some (.inl (0, hL s h))) {j : Nat} (hj : j < 8) : ab_M X kX0_tell [.ref q, .int (nI j)] w (some (.int (fld s h j))) w := by
  show ab_G X kX0_tell 0 [some (.ref q), some (.int (nI j))] [] w _ _
  rcases (show j = 0 ∨ j = 1 ∨ j = 2 ∨ j = 3 ∨ j = 4 ∨ j = 5 ∨ j = 6 ∨ j = 7 by omega) with rfl | rfl | rfl | rfl | rfl | rfl | rfl | rfl
  · refine ab_s rfl ?_
    refine ab_Nsw (a := 0) rfl rfl (by decide) rfl rfl ?_
    refine ab_s rfl ?_
    refine ab_gf rfl rfl rfl hw rfl ?_
    exact ab_ri rfl rfl
  · refine ab_s rfl ?_
    refine ab_Nsw (a := 1) rfl rfl (by decide) rfl rfl ?_
    refine ab_s rfl ?_
    refine ab_gf rfl rfl rfl hw rfl ?_
    exact ab_ri rfl rfl
  · refine ab_s rfl ?_
    refine ab_Nsw (a := 2) rfl rfl (by decide) rfl rfl ?_
    refine ab_s rfl ?_
    refine ab_gf rfl rfl rfl hw rfl ?_
    exact ab_ri rfl rfl
  · refine ab_s rfl ?_
    refine ab_Nsw (a := 3) rfl rfl (by decide) rfl rfl ?_
    refine ab_s rfl ?_
    refine ab_gf rfl rfl rfl hw rfl ?_
    exact ab_ri rfl rfl
  · refine ab_s rfl ?_
    refine ab_Nsw (a := 4) rfl rfl (by decide) rfl rfl ?_
    refine ab_s rfl ?_
    refine ab_gf rfl rfl rfl hw rfl ?_
    exact ab_ri rfl rfl
  · refine ab_s rfl ?_
    refine ab_Nsw (a := 5) rfl rfl (by decide) rfl rfl ?_
    refine ab_s rfl ?_
    refine ab_gf rfl rfl rfl hw rfl ?_
    exact ab_ri rfl rfl
  · refine ab_s rfl ?_
    refine ab_Nsw (a := 6) rfl rfl (by decide) rfl rfl ?_
    refine ab_s rfl ?_
    refine ab_gf rfl rfl rfl hw rfl ?_
    exact ab_ri rfl rfl
  · refine ab_s rfl ?_
    refine ab_swd rfl (by decide) rfl ?_
    refine ab_s rfl ?_
    refine ab_gf rfl rfl rfl hw rfl ?_
    exact ab_ri rfl rfl
set_option maxRecDepth 100000 in
set_option maxHeartbeats 4000000 in
theorem x_become (hw : w[q]? = some (.inl (0, hL s h))) {j : Nat} (hj : j = 0 ∨ j = 3 ∨ j = 4 ∨ j = 6 ∨ j = 7) (v : Int32) (hl : s.length = 90) (hh : h < 8) : ab_Q X kX0_become [.ref q, .int (nI j), .int v] w (fun v1 w1 => v1 = none ∧ w1[q]? = some (.inl (0, hL (s.set (2 + 8 * h + j) v) h)) ∧ ∀ i, i ≠ q → w1[i]? = w[i]?) := by
  show ab_H X kX0_become 0 [some (.ref q), some (.int (nI j)), some (.int v)] [] w _
  rcases hj with rfl | rfl | rfl | rfl | rfl
  · refine h_s rfl ?_
    refine h_Nsw (a := 0) rfl rfl (by decide) rfl rfl ?_
    iterate 2 refine h_s rfl ?_
    refine h_pf rfl rfl hw rfl (fun w1 e1 f1 => ?_)
    refine h_s rfl ?_
    exact h_r rfl ⟨rfl, e1.trans (by rw [hL_set hl hh (by decide)]), f1⟩
  · refine h_s rfl ?_
    refine h_Nsw (a := 3) rfl rfl (by decide) rfl rfl ?_
    iterate 2 refine h_s rfl ?_
    refine h_pf rfl rfl hw rfl (fun w1 e1 f1 => ?_)
    refine h_s rfl ?_
    exact h_r rfl ⟨rfl, e1.trans (by rw [hL_set hl hh (by decide)]), f1⟩
  · refine h_s rfl ?_
    refine h_Nsw (a := 4) rfl rfl (by decide) rfl rfl ?_
    iterate 2 refine h_s rfl ?_
    refine h_pf rfl rfl hw rfl (fun w1 e1 f1 => ?_)
    refine h_s rfl ?_
    exact h_r rfl ⟨rfl, e1.trans (by rw [hL_set hl hh (by decide)]), f1⟩
  · refine h_s rfl ?_
    refine h_Nsw (a := 6) rfl rfl (by decide) rfl rfl ?_
    iterate 2 refine h_s rfl ?_
    refine h_pf rfl rfl hw rfl (fun w1 e1 f1 => ?_)
    refine h_s rfl ?_
    exact h_r rfl ⟨rfl, e1.trans (by rw [hL_set hl hh (by decide)]), f1⟩
  · refine h_s rfl ?_
    refine h_Nsw (a := 7) rfl rfl (by decide) rfl rfl ?_
    iterate 2 refine h_s rfl ?_
    refine h_pf rfl rfl hw rfl (fun w1 e1 f1 => ?_)
    refine h_s rfl ?_
    exact h_r rfl ⟨rfl, e1.trans (by rw [hL_set hl hh (by decide)]), f1⟩
set_option maxRecDepth 100000 in
set_option maxHeartbeats 4000000 in
theorem x_renew {vs : List Value} (hw : w[q]? = some (.inl (0, vs))) (hv : vs.length = 9) (a b : Int32) : ab_Q X kX0_renew [.ref q, .int a, .int b] w (fun v1 w1 => v1 = none ∧ w1[q]? = some (.inl (0, [.int a, .int b, .int (-1), .int 0, .int 6, .int 22, .int 0, .int 2, .int a])) ∧ ∀ i, i ≠ q → w1[i]? = w[i]?) := by
  show ab_H X kX0_renew 0 [some (.ref q), some (.int a), some (.int b)] [] w _
  match vs, hv with
  | [a0, a1, a2, a3, a4, a5, a6, a7, a8], _ =>
    iterate 2 refine h_s rfl ?_
    refine h_pf rfl rfl hw rfl (fun w1 e1 f1 => ?_)
    iterate 2 refine h_s rfl ?_
    refine h_pf rfl rfl e1 rfl (fun w2 e2 f2 => ?_)
    refine h_s rfl ?_
    refine h_k (y := (-1)) rfl rfl ?_
    refine h_pf rfl rfl e2 rfl (fun w3 e3 f3 => ?_)
    refine h_s rfl ?_
    refine h_k (y := 0) rfl rfl ?_
    refine h_pf rfl rfl e3 rfl (fun w4 e4 f4 => ?_)
    refine h_s rfl ?_
    refine h_k (y := 6) rfl rfl ?_
    refine h_pf rfl rfl e4 rfl (fun w5 e5 f5 => ?_)
    refine h_s rfl ?_
    refine h_k (y := 22) rfl rfl ?_
    refine h_pf rfl rfl e5 rfl (fun w6 e6 f6 => ?_)
    refine h_s rfl ?_
    refine h_k (y := 0) rfl rfl ?_
    refine h_pf rfl rfl e6 rfl (fun w7 e7 f7 => ?_)
    refine h_s rfl ?_
    refine h_k (y := 2) rfl rfl ?_
    refine h_pf rfl rfl e7 rfl (fun w8 e8 f8 => ?_)
    iterate 2 refine h_s rfl ?_
    refine h_pf rfl rfl e8 rfl (fun w9 e9 f9 => ?_)
    exact h_r rfl ⟨rfl, e9, fun i hi => (f9 i hi).trans ((f8 i hi).trans ((f7 i hi).trans ((f6 i hi).trans ((f5 i hi).trans ((f4 i hi).trans ((f3 i hi).trans ((f2 i hi).trans (f1 i hi))))))))⟩
set_option maxRecDepth 100000 in
set_option maxHeartbeats 4000000 in
theorem x_takeHouse {p : Nat} {vs : List Value} (hw : w[q]? = some (.inl (0, vs))) (hv : vs.length = 9) (hp : w[p]? = some (.inl (0, hL s h))) (hqp : p ≠ q) : ab_Q X kX0_takeFrom [.ref q, .ref p] w (fun v1 w1 => v1 = none ∧ w1[q]? = some (.inl (0, hL s h)) ∧ ∀ i, i ≠ q → w1[i]? = w[i]?) := by
  show ab_H X kX0_takeFrom 0 [some (.ref q), some (.ref p)] [] w _
  match vs, hv with
  | [a0, a1, a2, a3, a4, a5, a6, a7, a8], _ =>
    iterate 2 refine h_s rfl ?_
    refine h_gf rfl rfl rfl hp rfl ?_
    refine h_pf rfl rfl hw rfl (fun w1 e1 f1 => ?_)
    have g1 := (f1 p hqp).trans hp
    iterate 2 refine h_s rfl ?_
    refine h_gf rfl rfl rfl g1 rfl ?_
    refine h_pf rfl rfl e1 rfl (fun w2 e2 f2 => ?_)
    have g2 := (f2 p hqp).trans g1
    iterate 2 refine h_s rfl ?_
    refine h_gf rfl rfl rfl g2 rfl ?_
    refine h_pf rfl rfl e2 rfl (fun w3 e3 f3 => ?_)
    have g3 := (f3 p hqp).trans g2
    iterate 2 refine h_s rfl ?_
    refine h_gf rfl rfl rfl g3 rfl ?_
    refine h_pf rfl rfl e3 rfl (fun w4 e4 f4 => ?_)
    have g4 := (f4 p hqp).trans g3
    iterate 2 refine h_s rfl ?_
    refine h_gf rfl rfl rfl g4 rfl ?_
    refine h_pf rfl rfl e4 rfl (fun w5 e5 f5 => ?_)
    have g5 := (f5 p hqp).trans g4
    iterate 2 refine h_s rfl ?_
    refine h_gf rfl rfl rfl g5 rfl ?_
    refine h_pf rfl rfl e5 rfl (fun w6 e6 f6 => ?_)
    have g6 := (f6 p hqp).trans g5
    iterate 2 refine h_s rfl ?_
    refine h_gf rfl rfl rfl g6 rfl ?_
    refine h_pf rfl rfl e6 rfl (fun w7 e7 f7 => ?_)
    have g7 := (f7 p hqp).trans g6
    iterate 2 refine h_s rfl ?_
    refine h_gf rfl rfl rfl g7 rfl ?_
    refine h_pf rfl rfl e7 rfl (fun w8 e8 f8 => ?_)
    have g8 := (f8 p hqp).trans g7
    iterate 2 refine h_s rfl ?_
    refine h_gf rfl rfl rfl g8 rfl ?_
    refine h_pf rfl rfl e8 rfl (fun w9 e9 f9 => ?_)
    have g9 := (f9 p hqp).trans g8
    exact h_r rfl ⟨rfl, e9, fun i hi => (f9 i hi).trans ((f8 i hi).trans ((f7 i hi).trans ((f6 i hi).trans ((f5 i hi).trans ((f4 i hi).trans ((f3 i hi).trans ((f2 i hi).trans (f1 i hi))))))))⟩
set_option maxRecDepth 100000 in
set_option maxHeartbeats 4000000 in
theorem x_isInHours (hw : w[q]? = some (.inl (0, hL s h))) (c : Int32) : ab_M X kX0_isInHours [.ref q, .int c] w (some (.int (z01 (hourB s h c)))) w := by
  show ab_G X kX0_isInHours 0 [some (.ref q), some (.int c)] [] w _ _
  refine ab_s rfl ?_
  refine ab_gf rfl rfl rfl hw rfl ?_
  refine ab_s rfl ?_
  refine ab_gf rfl rfl rfl hw rfl ?_
  refine j2_le rfl rfl (fun h8 => ?_) (fun h8 => ?_)
  · iterate 2 refine ab_s rfl ?_
    refine ab_gf rfl rfl rfl hw rfl ?_
    refine j2_lt rfl rfl (fun h38 => ?_) (fun h38 => ?_)
    · refine ab_k (y := 0) rfl rfl ?_
      exact ab_ri rfl (by unfold hourB; (try simp only [nle_i] at *); first | (simp [z01, *]; done) | simp_all [z01])
    · iterate 2 refine ab_s rfl ?_
      refine ab_gf rfl rfl rfl hw rfl ?_
      refine j2_gt rfl rfl (fun h46 => ?_) (fun h46 => ?_)
      · refine ab_k (y := 0) rfl rfl ?_
        exact ab_ri rfl (by unfold hourB; (try simp only [nle_i] at *); first | (simp [z01, *]; done) | simp_all [z01])
      · refine ab_k (y := 1) rfl rfl ?_
        refine ab_s rfl ?_
        exact ab_ri rfl (by unfold hourB; (try simp only [nle_i] at *); first | (simp [z01, *]; done) | simp_all [z01])
  · iterate 2 refine ab_s rfl ?_
    refine ab_gf rfl rfl rfl hw rfl ?_
    refine j2_ge rfl rfl (fun h16 => ?_) (fun h16 => ?_)
    · refine ab_k (y := 1) rfl rfl ?_
      refine ab_s rfl ?_
      exact ab_ri rfl (by unfold hourB; (try simp only [nle_i] at *); first | (simp [z01, *]; done) | simp_all [z01])
    · iterate 2 refine ab_s rfl ?_
      refine ab_gf rfl rfl rfl hw rfl ?_
      refine j2_gt rfl rfl (fun h24 => ?_) (fun h24 => ?_)
      · refine ab_k (y := 0) rfl rfl ?_
        exact ab_ri rfl (by unfold hourB; (try simp only [nle_i] at *); first | (simp [z01, *]; done) | simp_all [z01])
      · refine ab_k (y := 1) rfl rfl ?_
        refine ab_s rfl ?_
        exact ab_ri rfl (by unfold hourB; (try simp only [nle_i] at *); first | (simp [z01, *]; done) | simp_all [z01])
set_option maxRecDepth 100000 in
set_option maxHeartbeats 4000000 in
theorem x_admK (hw : w[q]? = some (.inl (0, hL s h))) {f k : Nat} (hf : f < 8) (hk7 : k < 7) (hk : fld s h 0 = nI k) (c lv : Int32) (ih ah as : Bool) : ab_G X kX0_admits 55 [some (.ref q), some (.int (nI f)), some (.int c), some (.int lv), some (.int (z01 ih)), some (.int (z01 ah)), some (.int (z01 as))] [] w (some (.int (z01 (admV (fld s h 0) c ih ah as (bt (fld s h 5) f))))) w := by
  rcases (show k = 0 ∨ k = 1 ∨ k = 2 ∨ k = 3 ∨ k = 4 ∨ k = 5 ∨ k = 6 by omega) with rfl | rfl | rfl | rfl | rfl | rfl | rfl
  · refine ab_s rfl ?_
    refine ab_gf rfl rfl rfl hw rfl ?_
    refine ab_t hk ?_
    refine ab_swd rfl (by decide) rfl ?_
    refine ab_s rfl ?_
    exact ab_rz rfl rfl (by rw [hk]; rfl)
  · refine ab_s rfl ?_
    refine ab_gf rfl rfl rfl hw rfl ?_
    refine ab_t hk ?_
    refine ab_Nsw (a := 1) rfl rfl (by decide) rfl rfl ?_
    refine ab_s rfl ?_
    exact ab_rz rfl rfl (by rw [hk]; rfl)
  · refine ab_s rfl ?_
    refine ab_gf rfl rfl rfl hw rfl ?_
    refine ab_t hk ?_
    refine ab_Nsw (a := 2) rfl rfl (by decide) rfl rfl ?_
    refine ab_s rfl ?_
    exact ab_rz rfl rfl (by rw [hk]; rfl)
  · refine ab_s rfl ?_
    refine ab_gf rfl rfl rfl hw rfl ?_
    refine ab_t hk ?_
    refine ab_Nsw (a := 3) rfl rfl (by decide) rfl rfl ?_
    refine ab_k (y := 1) rfl rfl ?_
    exact ab_ri rfl (by rw [hk]; show _ = z01 true; first | rfl | (simp [z01, *]; done) | ((try simp only [c19_i] at *); (try simp only [nle_i] at *); first | (simp [z01, *]; done) | simp_all [z01]))
  · refine ab_s rfl ?_
    refine ab_gf rfl rfl rfl hw rfl ?_
    refine ab_t hk ?_
    refine ab_Nsw (a := 4) rfl rfl (by decide) rfl rfl ?_
    refine ab_s rfl ?_
    refine z1_ne rfl rfl (fun h129 => ?_) (fun h129 => ?_)
    · refine ab_k (y := 1) rfl rfl ?_
      refine ab_s rfl ?_
      exact ab_ri rfl (by rw [hk]; show _ = z01 (as || decide (c = 12)); first | rfl | (simp [z01, *]; done) | ((try simp only [c19_i] at *); (try simp only [nle_i] at *); first | (simp [z01, *]; done) | simp_all [z01]))
    · refine ab_s rfl ?_
      refine ab_k (y := 12) rfl rfl ?_
      refine j2_ne rfl rfl (fun h135 => ?_) (fun h135 => ?_)
      · refine ab_k (y := 0) rfl rfl ?_
        exact ab_ri rfl (by rw [hk]; show _ = z01 (as || decide (c = 12)); first | rfl | (simp [z01, *]; done) | ((try simp only [c19_i] at *); (try simp only [nle_i] at *); first | (simp [z01, *]; done) | simp_all [z01]))
      · refine ab_k (y := 1) rfl rfl ?_
        refine ab_s rfl ?_
        exact ab_ri rfl (by rw [hk]; show _ = z01 (as || decide (c = 12)); first | rfl | (simp [z01, *]; done) | ((try simp only [c19_i] at *); (try simp only [nle_i] at *); first | (simp [z01, *]; done) | simp_all [z01]))
  · refine ab_s rfl ?_
    refine ab_gf rfl rfl rfl hw rfl ?_
    refine ab_t hk ?_
    refine ab_Nsw (a := 5) rfl rfl (by decide) rfl rfl ?_
    refine ab_s rfl ?_
    refine z1_eq rfl rfl (fun h106 => ?_) (fun h106 => ?_)
    · refine ab_k (y := 0) rfl rfl ?_
      exact ab_ri rfl (by rw [hk]; show _ = z01 (ah && (decide (7 ≤ c) && decide (c ≤ 19))); first | rfl | (simp [z01, *]; done) | ((try simp only [c19_i] at *); (try simp only [nle_i] at *); first | (simp [z01, *]; done) | simp_all [z01]))
    · refine ab_s rfl ?_
      refine ab_k (y := 20) rfl rfl ?_
      refine j2_ge rfl rfl (fun h112 => ?_) (fun h112 => ?_)
      · refine ab_k (y := 0) rfl rfl ?_
        exact ab_ri rfl (by rw [hk]; show _ = z01 (ah && (decide (7 ≤ c) && decide (c ≤ 19))); first | rfl | (simp [z01, *]; done) | ((try simp only [c19_i] at *); (try simp only [nle_i] at *); first | (simp [z01, *]; done) | simp_all [z01]))
      · refine ab_s rfl ?_
        refine ab_k (y := 7) rfl rfl ?_
        refine j2_lt rfl rfl (fun h118 => ?_) (fun h118 => ?_)
        · refine ab_k (y := 0) rfl rfl ?_
          exact ab_ri rfl (by rw [hk]; show _ = z01 (ah && (decide (7 ≤ c) && decide (c ≤ 19))); first | rfl | (simp [z01, *]; done) | ((try simp only [c19_i] at *); (try simp only [nle_i] at *); first | (simp [z01, *]; done) | simp_all [z01]))
        · refine ab_k (y := 1) rfl rfl ?_
          refine ab_s rfl ?_
          exact ab_ri rfl (by rw [hk]; show _ = z01 (ah && (decide (7 ≤ c) && decide (c ≤ 19))); first | rfl | (simp [z01, *]; done) | ((try simp only [c19_i] at *); (try simp only [nle_i] at *); first | (simp [z01, *]; done) | simp_all [z01]))
  · refine ab_s rfl ?_
    refine ab_gf rfl rfl rfl hw rfl ?_
    refine ab_t hk ?_
    refine ab_Nsw (a := 6) rfl rfl (by decide) rfl rfl ?_
    refine ab_s rfl ?_
    refine z1_eq rfl rfl (fun h146 => ?_) (fun h146 => ?_)
    · refine ab_k (y := 0) rfl rfl ?_
      exact ab_ri rfl (by rw [hk]; show _ = z01 (as && !bt (fld s h 5) f); first | rfl | (simp [z01, *]; done) | ((try simp only [c19_i] at *); (try simp only [nle_i] at *); first | (simp [z01, *]; done) | simp_all [z01]))
    · refine ab_s rfl ?_
      refine ab_gf rfl rfl rfl hw rfl ?_
      refine ab_s rfl ?_
      refine ab_c rfl (x_isIn (fld s h 5) (by omega)) ?_
      refine ab_n (st2 := [_]) rfl ?_
      refine z1_ne rfl rfl (fun h157 => ?_) (fun h157 => ?_)
      · refine ab_k (y := 0) rfl rfl ?_
        exact ab_ri rfl (by rw [hk]; show _ = z01 (as && !bt (fld s h 5) f); first | rfl | (simp [z01, *]; done) | ((try simp only [c19_i] at *); (try simp only [nle_i] at *); first | (simp [z01, *]; done) | simp_all [z01]))
      · refine ab_k (y := 1) rfl rfl ?_
        refine ab_s rfl ?_
        exact ab_ri rfl (by rw [hk]; show _ = z01 (as && !bt (fld s h 5) f); first | rfl | (simp [z01, *]; done) | ((try simp only [c19_i] at *); (try simp only [nle_i] at *); first | (simp [z01, *]; done) | simp_all [z01]))
set_option maxRecDepth 100000 in
set_option maxHeartbeats 4000000 in
theorem x_admits (hw : w[q]? = some (.inl (0, hL s h))) {f k : Nat} (hf : f < 8) (hh : h < 8) (hk7 : k < 7) (hk : fld s h 0 = nI k) (c lv : Int32) : ab_M X kX0_admits [.ref q, .int (nI f), .int c, .int lv] w (some (.int (z01 (letV s h f c lv)))) w := by
  show ab_G X kX0_admits 0 [some (.ref q), some (.int (nI f)), some (.int c), some (.int lv), none, none, none] [] w _ _
  iterate 2 refine ab_s rfl ?_
  refine ab_gf rfl rfl rfl hw rfl ?_
  refine jN_ne rfl rfl rfl rfl (by omega) (by omega) (fun h5 => ?_) (fun h5 => ?_)
  · iterate 2 refine ab_s rfl ?_
    refine ab_cv rfl rfl rfl hw rfl rfl (x_isInHours hw c) ?_
    refine ab_n (st2 := [_]) rfl ?_
    iterate 2 refine ab_s rfl ?_
    refine z1_eq rfl rfl (fun h19 => ?_) (fun h19 => ?_)
    · refine ab_k (y := 0) rfl rfl ?_
      iterate 3 refine ab_s rfl ?_
      refine ab_k (y := 0) rfl rfl ?_
      refine ab_s rfl ?_
      have e1 : (bt lv f && hourB s h c) = false := by rw [h19, Bool.and_false]
      have e2 : (bt lv f && hourB s h c && decide (c < 20)) = false := by rw [h19, Bool.and_false, Bool.false_and]
      unfold letV
      rw [if_neg (fun q => h5 q.symm), e2, e1]
      exact x_admK hw hf hk7 hk c lv (hourB s h c) false false
    · iterate 2 refine ab_s rfl ?_
      refine ab_c rfl (x_isIn lv (by omega)) ?_
      refine ab_n (st2 := [_]) rfl ?_
      refine z1_eq rfl rfl (fun h27 => ?_) (fun h27 => ?_)
      · refine ab_k (y := 0) rfl rfl ?_
        iterate 3 refine ab_s rfl ?_
        refine ab_k (y := 0) rfl rfl ?_
        refine ab_s rfl ?_
        have e1 : (bt lv f && hourB s h c) = false := by rw [h27, Bool.false_and]
        have e2 : (bt lv f && hourB s h c && decide (c < 20)) = false := by rw [h27, Bool.false_and, Bool.false_and]
        unfold letV
        rw [if_neg (fun q => h5 q.symm), e2, e1]
        exact x_admK hw hf hk7 hk c lv (hourB s h c) false false
      · refine ab_k (y := 1) rfl rfl ?_
        iterate 5 refine ab_s rfl ?_
        refine ab_k (y := 20) rfl rfl ?_
        refine j2_ge rfl rfl (fun h45 => ?_) (fun h45 => ?_)
        · refine ab_k (y := 0) rfl rfl ?_
          refine ab_s rfl ?_
          have e1 : (bt lv f && hourB s h c) = true := by rw [h27, h19]; rfl
          have e2 : (bt lv f && hourB s h c && decide (c < 20)) = false := by rw [decide_eq_false (Int32.not_lt.mpr h45), Bool.and_false]
          unfold letV
          rw [if_neg (fun q => h5 q.symm), e2, e1]
          exact x_admK hw hf hk7 hk c lv (hourB s h c) true false
        · refine ab_k (y := 1) rfl rfl ?_
          iterate 2 refine ab_s rfl ?_
          have e1 : (bt lv f && hourB s h c) = true := by rw [h27, h19]; rfl
          have e2 : (bt lv f && hourB s h c && decide (c < 20)) = true := by rw [h27, h19, decide_eq_true (Int32.not_le.mp h45)]; rfl
          unfold letV
          rw [if_neg (fun q => h5 q.symm), e2, e1]
          exact x_admK hw hf hk7 hk c lv (hourB s h c) true true
  · refine ab_k (y := 1) rfl rfl ?_
    exact ab_ri rfl (by unfold letV; rw [if_pos (by omega)]; rfl)
end XB
