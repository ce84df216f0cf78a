/-! THE REFERENCE: houses, stairs, names, images -/
def markI (x : Int32) (f : Nat) (z : Bool) : Int32 := if z then x ||| ((1 : Int32) <<< (nI f &&& 31)) else x &&& (((1 : Int32) <<< (nI f &&& 31)) ^^^ (-1))
def wayOK (n : Nat) (a b : Int32) : Bool := inN a n && decide (-1 ≤ b.toInt ∧ b.toInt ≤ 1) && !(decide (b = 0) && decide (a = 0)) && !(decide (b = 1) && decide (a = 7))
def asI (own kind : Int32) : Bool := decide (kind = 0) || decide (own = kind) || (decide (kind = 1) && (decide (own = 4) || decide (own = 6))) || (decide (kind = 2) && decide (own = 3))
theorem l_ext {xs ys : List Int32} {m : Nat} (h1 : xs.length = m) (h2 : ys.length = m) (h : ∀ j, j < m → xs.getD j 0 = ys.getD j 0) : xs = ys := by
  apply List.ext_getElem (by omega)
  intro i h3 h4
  have := h i (by omega)
  rwa [List.getD_eq_getElem?_getD, List.getD_eq_getElem?_getD, List.getElem?_eq_getElem h3, List.getElem?_eq_getElem h4] at this
section MB
variable {X : List Int32} {w : ab_W} {s : List Int32} {n : Nat} {st ks : List Int32} {kp : Bool} {tp : List Int32} {tn : Nat} {bo so nu : List Int32}
theorem m_inW (x : Int32) : ab_M X kX6_in [.long x.toInt64, .long (-1), .long 1] w (some (.int (z01 (decide (-1 ≤ x.toInt ∧ x.toInt ≤ 1))))) w := by
  by_cases h : -1 ≤ x.toInt ∧ x.toInt ≤ 1
  · rw [decide_eq_true h]
    exact m_in1 (lo := -1) (hi := 1) rfl rfl h
  · rw [decide_eq_false h]
    exact m_in0 (lo := -1) (hi := 1) rfl rfl h
theorem MW.o54 (R : MW w s n st ks kp tp tn bo so nu) {w1 : ab_W} (kp1 : Bool) (tn1 : Nat) (fr1 to1 vl1 : Int32) (wr1 : Bool) (ht1 : tn1 ≤ 120) (h : w1[54]? = some (.inl (6, mObj kp1 tn1 fr1 to1 vl1 wr1))) (hf : ∀ i, i ≠ 54 → w1[i]? = w[i]?) : MW w1 s n st ks kp1 tp tn1 bo so nu := by
  obtain ⟨oth, nz, mv, fr, to, vl, wr, a54, a55, a56, a57, a58, a59, a60, a61, a62, a63, a64, l, h0, hn, ht⟩ := R
  exact ⟨oth, nz, mv, fr1, to1, vl1, wr1, h, by rw [hf _ (by decide)]; exact a55, by rw [hf _ (by decide)]; exact a56, by rw [hf _ (by decide)]; exact a57, by rw [hf _ (by decide)]; exact a58, by rw [hf _ (by decide)]; exact a59, by rw [hf _ (by decide)]; exact a60, by rw [hf _ (by decide)]; exact a61, by rw [hf _ (by decide)]; exact a62, by rw [hf _ (by decide)]; exact a63, by rw [hf _ (by decide)]; exact a64, l, h0, hn, ht1⟩
theorem MW.k56 (R : MW w s n st ks kp tp tn bo so nu) {w1 : ab_W} {ks1 : List Int32} (h : w1[56]? = some (.inr ks1)) (hl : ks1.length = 90) (hf : ∀ i, i ≠ 56 → w1[i]? = w[i]?) : MW w1 s n st ks1 kp tp tn bo so nu := by
  obtain ⟨oth, nz, mv, fr, to, vl, wr, a54, a55, a56, a57, a58, a59, a60, a61, a62, a63, a64, l, h0, hn, ht⟩ := R
  exact ⟨oth, nz, mv, fr, to, vl, wr, by rw [hf _ (by decide)]; exact a54, by rw [hf _ (by decide)]; exact a55, h, by rw [hf _ (by decide)]; exact a57, by rw [hf _ (by decide)]; exact a58, by rw [hf _ (by decide)]; exact a59, by rw [hf _ (by decide)]; exact a60, by rw [hf _ (by decide)]; exact a61, by rw [hf _ (by decide)]; exact a62, by rw [hf _ (by decide)]; exact a63, by rw [hf _ (by decide)]; exact a64, ⟨l.1, hl, l.2.2⟩, h0, hn, ht⟩
theorem MW.o57 (R : MW w s n st ks kp tp tn bo so nu) {w1 : ab_W} {xs : List Int32} (h : w1[57]? = some (.inr xs)) (hl : xs.length = 90) (hf : ∀ i, i ≠ 57 → w1[i]? = w[i]?) : MW w1 s n st ks kp tp tn bo so nu := by
  obtain ⟨oth, nz, mv, fr, to, vl, wr, a54, a55, a56, a57, a58, a59, a60, a61, a62, a63, a64, l, h0, hn, ht⟩ := R
  exact ⟨xs, nz, mv, fr, to, vl, wr, by rw [hf _ (by decide)]; exact a54, by rw [hf _ (by decide)]; exact a55, by rw [hf _ (by decide)]; exact a56, h, by rw [hf _ (by decide)]; exact a58, by rw [hf _ (by decide)]; exact a59, by rw [hf _ (by decide)]; exact a60, by rw [hf _ (by decide)]; exact a61, by rw [hf _ (by decide)]; exact a62, by rw [hf _ (by decide)]; exact a63, by rw [hf _ (by decide)]; exact a64, ⟨l.1, l.2.1, hl, l.2.2.2⟩, h0, hn, ht⟩
set_option maxRecDepth 100000 in
set_option maxHeartbeats 4000000 in
theorem m_newHouse (R : MW w s n st ks kp tp tn bo so nu) (k : Int32) (hn8 : n < 8) : ab_Q X kX6_newHouse [.ref 54, .int k] w (MP w (nI n) (newS s n k) (n + 1) st ks kp tp tn bo so nu) := by
  have M := R.ms
  have R0 := R
  obtain ⟨oth, nz, mv, fr, to, vl, wr, a54, a55, a56, a57, a58, a59, a60, a61, a62, a63, a64, l, h0, hn, ht⟩ := R
  show ab_H X kX6_newHouse 0 [some (.ref 54), some (.int k), none] [] w _
  have F : ∀ i, i ≠ 55 → w[i]? = w[i]? := fun i _ => rfl
  refine h_s rfl ?_
  refine h_gf rfl rfl rfl a54 rfl ?_
  refine h_k (y := 0) rfl rfl ?_
  refine h_ia 0 rfl a55 (by omega) rfl (by omega) ?_
  refine h_t h0 ?_
  iterate 2 refine h_s rfl ?_
  refine h_gf rfl rfl rfl a54 rfl ?_
  refine h_s rfl ?_
  refine h_k (y := 0) rfl rfl ?_
  refine h_c rfl (m_at n 0 rfl rfl) ?_
  refine h_s rfl ?_
  refine h_is (2 + 8 * n + 0) rfl a55 (by first | omega | (simp only [newS, List.length_set]; omega)) rfl (by first | omega | (simp only [newS, List.length_set]; omega)) (fun w1 e1 f1 => ?_)
  have a54 := (f1 54 (by decide)).trans a54
  have a55 := e1
  have F := fun i (hi : i ≠ 55) => (f1 i hi).trans (F i hi)
  refine h_s rfl ?_
  refine h_gf rfl rfl rfl a54 rfl ?_
  refine h_s rfl ?_
  refine h_k (y := 1) rfl rfl ?_
  refine h_c rfl (m_at n 1 rfl rfl) ?_
  refine h_k (y := (-1)) rfl rfl ?_
  refine h_is (2 + 8 * n + 1) rfl a55 (by first | omega | (simp only [newS, List.length_set]; omega)) rfl (by first | omega | (simp only [newS, List.length_set]; omega)) (fun w1 e1 f1 => ?_)
  have a54 := (f1 54 (by decide)).trans a54
  have a55 := e1
  have F := fun i (hi : i ≠ 55) => (f1 i hi).trans (F i hi)
  refine h_s rfl ?_
  refine h_gf rfl rfl rfl a54 rfl ?_
  refine h_s rfl ?_
  refine h_k (y := 2) rfl rfl ?_
  refine h_c rfl (m_at n 2 rfl rfl) ?_
  refine h_k (y := 0) rfl rfl ?_
  refine h_is (2 + 8 * n + 2) rfl a55 (by first | omega | (simp only [newS, List.length_set]; omega)) rfl (by first | omega | (simp only [newS, List.length_set]; omega)) (fun w1 e1 f1 => ?_)
  have a54 := (f1 54 (by decide)).trans a54
  have a55 := e1
  have F := fun i (hi : i ≠ 55) => (f1 i hi).trans (F i hi)
  refine h_s rfl ?_
  refine h_gf rfl rfl rfl a54 rfl ?_
  refine h_s rfl ?_
  refine h_k (y := 3) rfl rfl ?_
  refine h_c rfl (m_at n 3 rfl rfl) ?_
  refine h_k (y := 6) rfl rfl ?_
  refine h_is (2 + 8 * n + 3) rfl a55 (by first | omega | (simp only [newS, List.length_set]; omega)) rfl (by first | omega | (simp only [newS, List.length_set]; omega)) (fun w1 e1 f1 => ?_)
  have a54 := (f1 54 (by decide)).trans a54
  have a55 := e1
  have F := fun i (hi : i ≠ 55) => (f1 i hi).trans (F i hi)
  refine h_s rfl ?_
  refine h_gf rfl rfl rfl a54 rfl ?_
  refine h_s rfl ?_
  refine h_k (y := 4) rfl rfl ?_
  refine h_c rfl (m_at n 4 rfl rfl) ?_
  refine h_k (y := 22) rfl rfl ?_
  refine h_is (2 + 8 * n + 4) rfl a55 (by first | omega | (simp only [newS, List.length_set]; omega)) rfl (by first | omega | (simp only [newS, List.length_set]; omega)) (fun w1 e1 f1 => ?_)
  have a54 := (f1 54 (by decide)).trans a54
  have a55 := e1
  have F := fun i (hi : i ≠ 55) => (f1 i hi).trans (F i hi)
  refine h_s rfl ?_
  refine h_gf rfl rfl rfl a54 rfl ?_
  refine h_s rfl ?_
  refine h_k (y := 5) rfl rfl ?_
  refine h_c rfl (m_at n 5 rfl rfl) ?_
  refine h_k (y := 0) rfl rfl ?_
  refine h_is (2 + 8 * n + 5) rfl a55 (by first | omega | (simp only [newS, List.length_set]; omega)) rfl (by first | omega | (simp only [newS, List.length_set]; omega)) (fun w1 e1 f1 => ?_)
  have a54 := (f1 54 (by decide)).trans a54
  have a55 := e1
  have F := fun i (hi : i ≠ 55) => (f1 i hi).trans (F i hi)
  refine h_s rfl ?_
  refine h_gf rfl rfl rfl a54 rfl ?_
  refine h_s rfl ?_
  refine h_k (y := 6) rfl rfl ?_
  refine h_c rfl (m_at n 6 rfl rfl) ?_
  refine h_k (y := 2) rfl rfl ?_
  refine h_is (2 + 8 * n + 6) rfl a55 (by first | omega | (simp only [newS, List.length_set]; omega)) rfl (by first | omega | (simp only [newS, List.length_set]; omega)) (fun w1 e1 f1 => ?_)
  have a54 := (f1 54 (by decide)).trans a54
  have a55 := e1
  have F := fun i (hi : i ≠ 55) => (f1 i hi).trans (F i hi)
  refine h_s rfl ?_
  refine h_gf rfl rfl rfl a54 rfl ?_
  refine h_s rfl ?_
  refine h_k (y := 7) rfl rfl ?_
  refine h_c rfl (m_at n 7 rfl rfl) ?_
  refine h_s rfl ?_
  refine h_is (2 + 8 * n + 7) rfl a55 (by first | omega | (simp only [newS, List.length_set]; omega)) rfl (by first | omega | (simp only [newS, List.length_set]; omega)) (fun w1 e1 f1 => ?_)
  have a54 := (f1 54 (by decide)).trans a54
  have a55 := e1
  have F := fun i (hi : i ≠ 55) => (f1 i hi).trans (F i hi)
  refine h_s rfl ?_
  refine h_gf rfl rfl rfl a54 rfl ?_
  refine h_k (y := 0) rfl rfl ?_
  refine h_s rfl ?_
  refine h_ia 0 rfl a55 (by first | omega | (simp only [newS, List.length_set]; omega)) rfl (by first | omega | (simp only [newS, List.length_set]; omega)) ?_
  refine h_t (show _ = nI n by rw [gD_ne (by omega), gD_ne (by omega), gD_ne (by omega), gD_ne (by omega), gD_ne (by omega), gD_ne (by omega), gD_ne (by omega), gD_ne (by omega)]; exact h0) ?_
  refine h_k (y := 1) rfl rfl ?_
  refine h_s rfl ?_
  refine h_t (nI_1 n) ?_
  refine h_is (0) rfl a55 (by first | omega | (simp only [newS, List.length_set]; omega)) rfl (by first | omega | (simp only [newS, List.length_set]; omega)) (fun w1 e1 f1 => ?_)
  have a54 := (f1 54 (by decide)).trans a54
  have a55 := e1
  have F := fun i (hi : i ≠ 55) => (f1 i hi).trans (F i hi)
  refine h_s rfl ?_
  exact h_ri rfl rfl ⟨rfl, R0.s55 a55 (by first | omega | (simp only [newS, List.length_set]; omega)) (gD_eq (by first | omega | (simp only [newS, List.length_set]; omega))) (by omega) F, fun i hi => F i (by omega)⟩
set_option maxRecDepth 100000 in
set_option maxHeartbeats 4000000 in
theorem m_house_k (R : MW w s n st ks kp tp tn bo so nu) (k : Nat) (hk : k < 7) (hn8 : n < 8) : ab_Q X kX6_house [.ref 54, .int (nI k)] w (MP w (nI n) (newS s n (nI k)) (n + 1) st ks kp tp tn bo so nu) := by
  have M := R.ms
  have R0 := R
  obtain ⟨oth, nz, mv, fr, to, vl, wr, a54, a55, a56, a57, a58, a59, a60, a61, a62, a63, a64, l, h0, hn, ht⟩ := R
  show ab_H X kX6_house 0 [some (.ref 54), some (.int (nI k))] [] w _
  iterate 4 refine h_s rfl ?_
  refine h_c rfl (m_in1 (lo := 0) (hi := 6) rfl rfl (by rw [nI_toInt (by omega)]; omega)) ?_
  iterate 2 refine h_s rfl ?_
  refine h_gf rfl rfl rfl a54 rfl ?_
  refine h_k (y := 0) rfl rfl ?_
  refine h_ia 0 rfl a55 (by omega) rfl (by omega) ?_
  refine h_t h0 ?_
  refine h_k (y := 8) rfl rfl ?_
  refine h2_ne rfl rfl (fun h27 => ?_) (fun h27 => absurd h27 (show ¬ nI n = nI 8 from fun q => by rw [nI_eq (by omega) (by omega)] at q; omega))
  iterate 2 refine h_s rfl ?_
  refine hq_v rfl rfl rfl a54 rfl rfl (m_newHouse R0 (nI k) (by omega)) (fun v1 w1 q1 => ?_)
  obtain ⟨rfl, q2, q3⟩ := q1
  exact h_ri rfl rfl ⟨rfl, q2, q3⟩
set_option maxRecDepth 100000 in
set_option maxHeartbeats 4000000 in
theorem m_house_f (R : MW w s n st ks kp tp tn bo so nu) (k : Nat) (hk : k < 7) (hn8 : n = 8) : ab_Q X kX6_house [.ref 54, .int (nI k)] w (MP w (-1000002) s n (bump st 1) ks kp tp tn bo so nu) := by
  have M := R.ms
  have R0 := R
  obtain ⟨oth, nz, mv, fr, to, vl, wr, a54, a55, a56, a57, a58, a59, a60, a61, a62, a63, a64, l, h0, hn, ht⟩ := R
  show ab_H X kX6_house 0 [some (.ref 54), some (.int (nI k))] [] w _
  iterate 4 refine h_s rfl ?_
  refine h_c rfl (m_in1 (lo := 0) (hi := 6) rfl rfl (by rw [nI_toInt (by omega)]; omega)) ?_
  iterate 2 refine h_s rfl ?_
  refine h_gf rfl rfl rfl a54 rfl ?_
  refine h_k (y := 0) rfl rfl ?_
  refine h_ia 0 rfl a55 (by omega) rfl (by omega) ?_
  refine h_t h0 ?_
  refine h_k (y := 8) rfl rfl ?_
  refine h2_ne rfl rfl (fun h27 => absurd h27 (fun q => q (show nI n = nI 8 by rw [hn8]))) (fun h27 => ?_)
  iterate 2 refine h_s rfl ?_
  refine hq_v rfl rfl rfl a54 rfl rfl (m_finds R0 1 (by omega) _ (by decide)) (fun v1 w1 q1 => ?_)
  obtain ⟨rfl, q2, q3⟩ := q1
  refine h_s rfl ?_
  exact h_ri rfl rfl ⟨rfl, q2, q3⟩
set_option maxRecDepth 100000 in
set_option maxHeartbeats 4000000 in
theorem m_name_k0 (R : MW w s n st ks kp tp tn bo so nu) (h f : Nat) (z : Bool) (hh : h < n) (hf : f < 8) : ab_Q X kX6_name [.ref 54, .int (nI h), .int 0, .int (nI f), .int (z01 z)] w (MP w (z01 (bt (fld s h 2) f)) (s.set (2 + 8 * h + 2) (markI (fld s h 2) f z)) n st ks kp tp tn bo so nu) := by
  have M := R.ms
  have R0 := R
  obtain ⟨oth, nz, mv, fr, to, vl, wr, a54, a55, a56, a57, a58, a59, a60, a61, a62, a63, a64, l, h0, hn, ht⟩ := R
  show ab_H X kX6_name 0 [some (.ref 54), some (.int (nI h)), some (.int 0), some (.int (nI f)), some (.int (z01 z)), none, none] [] w _
  iterate 2 refine h_s rfl ?_
  refine h_cv rfl rfl rfl a54 rfl rfl (m_isHouse1 M ⟨h, by omega, rfl⟩) ?_
  iterate 5 refine h_s rfl ?_
  refine h_c rfl (m_in1 (x := 0) (lo := 0) (hi := 1) rfl rfl (by decide)) ?_
  iterate 5 refine h_s rfl ?_
  refine h_c rfl (m_in1 (lo := 0) (hi := 7) rfl rfl (by rw [nI_toInt (by omega)]; omega)) ?_
  iterate 4 refine h_s rfl ?_
  refine h_k (y := 2) rfl rfl ?_
  refine h_s rfl ?_
  refine h_c rfl (m_at h 2 rfl rfl) ?_
  iterate 2 refine h_s rfl ?_
  refine h_gf rfl rfl rfl a54 rfl ?_
  refine h_s rfl ?_
  refine h_ia (2 + 8 * h + 2) rfl a55 (by omega) rfl (by omega) ?_
  iterate 2 refine h_s rfl ?_
  refine h_gf rfl rfl rfl a54 rfl ?_
  iterate 2 refine h_s rfl ?_
  refine hz_eq rfl rfl (fun h69 => ?_) (fun h69 => ?_)
  · refine h_s rfl ?_
    refine h_k (y := 1) rfl rfl ?_
    iterate 2 refine h_s rfl ?_
    refine h_k (y := (-1)) rfl rfl ?_
    iterate 2 refine h_s rfl ?_
    refine h_is (2 + 8 * h + 2) rfl a55 (by omega) rfl (by omega) (fun w1 e1 f1 => ?_)
    iterate 2 refine h_s rfl ?_
    refine h_c rfl (m_has f (by omega)) ?_
    refine hz_eq rfl rfl (fun h96 => ?_) (fun h96 => ?_)
    · refine h_k (y := 0) rfl rfl ?_
      exact h_ri rfl (by rw [show bt (fld s h 2) f = _ from h96]; rfl) ⟨rfl, by rw [h69]; exact R0.sj e1 (by omega) f1, fun i hi => f1 i (by omega)⟩
    · refine h_k (y := 1) rfl rfl ?_
      refine h_s rfl ?_
      exact h_ri rfl (by rw [show bt (fld s h 2) f = _ from h96]; rfl) ⟨rfl, by rw [h69]; exact R0.sj e1 (by omega) f1, fun i hi => f1 i (by omega)⟩
  · refine h_s rfl ?_
    refine h_k (y := 1) rfl rfl ?_
    iterate 4 refine h_s rfl ?_
    refine h_is (2 + 8 * h + 2) rfl a55 (by omega) rfl (by omega) (fun w1 e1 f1 => ?_)
    iterate 2 refine h_s rfl ?_
    refine h_c rfl (m_has f (by omega)) ?_
    refine hz_eq rfl rfl (fun h96 => ?_) (fun h96 => ?_)
    · refine h_k (y := 0) rfl rfl ?_
      exact h_ri rfl (by rw [show bt (fld s h 2) f = _ from h96]; rfl) ⟨rfl, by rw [h69]; exact R0.sj e1 (by omega) f1, fun i hi => f1 i (by omega)⟩
    · refine h_k (y := 1) rfl rfl ?_
      refine h_s rfl ?_
      exact h_ri rfl (by rw [show bt (fld s h 2) f = _ from h96]; rfl) ⟨rfl, by rw [h69]; exact R0.sj e1 (by omega) f1, fun i hi => f1 i (by omega)⟩
set_option maxRecDepth 100000 in
set_option maxHeartbeats 4000000 in
theorem m_name_k1 (R : MW w s n st ks kp tp tn bo so nu) (h f : Nat) (z : Bool) (hh : h < n) (hf : f < 8) : ab_Q X kX6_name [.ref 54, .int (nI h), .int 1, .int (nI f), .int (z01 z)] w (MP w (z01 (bt (fld s h 5) f)) (s.set (2 + 8 * h + 5) (markI (fld s h 5) f z)) n st ks kp tp tn bo so nu) := by
  have M := R.ms
  have R0 := R
  obtain ⟨oth, nz, mv, fr, to, vl, wr, a54, a55, a56, a57, a58, a59, a60, a61, a62, a63, a64, l, h0, hn, ht⟩ := R
  show ab_H X kX6_name 0 [some (.ref 54), some (.int (nI h)), some (.int 1), some (.int (nI f)), some (.int (z01 z)), none, none] [] w _
  iterate 2 refine h_s rfl ?_
  refine h_cv rfl rfl rfl a54 rfl rfl (m_isHouse1 M ⟨h, by omega, rfl⟩) ?_
  iterate 5 refine h_s rfl ?_
  refine h_c rfl (m_in1 (x := 1) (lo := 0) (hi := 1) rfl rfl (by decide)) ?_
  iterate 5 refine h_s rfl ?_
  refine h_c rfl (m_in1 (lo := 0) (hi := 7) rfl rfl (by rw [nI_toInt (by omega)]; omega)) ?_
  iterate 4 refine h_s rfl ?_
  refine h_k (y := 5) rfl rfl ?_
  refine h_c rfl (m_at h 5 rfl rfl) ?_
  iterate 2 refine h_s rfl ?_
  refine h_gf rfl rfl rfl a54 rfl ?_
  refine h_s rfl ?_
  refine h_ia (2 + 8 * h + 5) rfl a55 (by omega) rfl (by omega) ?_
  iterate 2 refine h_s rfl ?_
  refine h_gf rfl rfl rfl a54 rfl ?_
  iterate 2 refine h_s rfl ?_
  refine hz_eq rfl rfl (fun h69 => ?_) (fun h69 => ?_)
  · refine h_s rfl ?_
    refine h_k (y := 1) rfl rfl ?_
    iterate 2 refine h_s rfl ?_
    refine h_k (y := (-1)) rfl rfl ?_
    iterate 2 refine h_s rfl ?_
    refine h_is (2 + 8 * h + 5) rfl a55 (by omega) rfl (by omega) (fun w1 e1 f1 => ?_)
    iterate 2 refine h_s rfl ?_
    refine h_c rfl (m_has f (by omega)) ?_
    refine hz_eq rfl rfl (fun h96 => ?_) (fun h96 => ?_)
    · refine h_k (y := 0) rfl rfl ?_
      exact h_ri rfl (by rw [show bt (fld s h 5) f = _ from h96]; rfl) ⟨rfl, by rw [h69]; exact R0.sj e1 (by omega) f1, fun i hi => f1 i (by omega)⟩
    · refine h_k (y := 1) rfl rfl ?_
      refine h_s rfl ?_
      exact h_ri rfl (by rw [show bt (fld s h 5) f = _ from h96]; rfl) ⟨rfl, by rw [h69]; exact R0.sj e1 (by omega) f1, fun i hi => f1 i (by omega)⟩
  · refine h_s rfl ?_
    refine h_k (y := 1) rfl rfl ?_
    iterate 4 refine h_s rfl ?_
    refine h_is (2 + 8 * h + 5) rfl a55 (by omega) rfl (by omega) (fun w1 e1 f1 => ?_)
    iterate 2 refine h_s rfl ?_
    refine h_c rfl (m_has f (by omega)) ?_
    refine hz_eq rfl rfl (fun h96 => ?_) (fun h96 => ?_)
    · refine h_k (y := 0) rfl rfl ?_
      exact h_ri rfl (by rw [show bt (fld s h 5) f = _ from h96]; rfl) ⟨rfl, by rw [h69]; exact R0.sj e1 (by omega) f1, fun i hi => f1 i (by omega)⟩
    · refine h_k (y := 1) rfl rfl ?_
      refine h_s rfl ?_
      exact h_ri rfl (by rw [show bt (fld s h 5) f = _ from h96]; rfl) ⟨rfl, by rw [h69]; exact R0.sj e1 (by omega) f1, fun i hi => f1 i (by omega)⟩
set_option maxRecDepth 100000 in
set_option maxHeartbeats 4000000 in
theorem m_stair_b (R : MW w s n st ks kp tp tn bo so nu) (a b : Int32) (hb : (wayOK n a b) = false)  : ab_Q X kX6_stair [.ref 54, .int a, .int b] w (MP w (-1000001) s n (bump st 0) ks kp tp tn bo so nu) := by
  have M := R.ms
  have R0 := R
  obtain ⟨oth, nz, mv, fr, to, vl, wr, a54, a55, a56, a57, a58, a59, a60, a61, a62, a63, a64, l, h0, hn, ht⟩ := R
  show ab_H X kX6_stair 0 [some (.ref 54), some (.int a), some (.int b), none] [] w _
  iterate 2 refine h_s rfl ?_
  refine h_cv rfl rfl rfl a54 rfl rfl (m_isHouse M _) ?_
  refine hz_eq rfl rfl (fun h5 => ?_) (fun h5 => ?_)
  · iterate 2 refine h_s rfl ?_
    refine hq_v rfl rfl rfl a54 rfl rfl (m_finds R0 0 (by omega) _ (by decide)) (fun v1 w1 q1 => ?_)
    obtain ⟨rfl, q2, q3⟩ := q1
    exact h_ri rfl rfl ⟨rfl, q2, q3⟩
  · iterate 4 refine h_s rfl ?_
    refine h_c rfl (m_inW _) ?_
    refine hz_eq rfl rfl (fun h17 => ?_) (fun h17 => ?_)
    · iterate 2 refine h_s rfl ?_
      refine hq_v rfl rfl rfl a54 rfl rfl (m_finds R0 0 (by omega) _ (by decide)) (fun v1 w1 q1 => ?_)
      obtain ⟨rfl, q2, q3⟩ := q1
      exact h_ri rfl rfl ⟨rfl, q2, q3⟩
    · refine h_s rfl ?_
      refine h1_ne rfl rfl (fun h21 => ?_) (fun h21 => ?_)
      · refine h_s rfl ?_
        refine h_k (y := 1) rfl rfl ?_
        refine h2_ne rfl rfl (fun h30 => ?_) (fun h30 => ?_)
        · exact absurd hb (by simp [wayOK, h5, h17, h21, h30])
        · refine h_s rfl ?_
          refine h_k (y := 7) rfl rfl ?_
          refine h2_ne rfl rfl (fun h36 => ?_) (fun h36 => ?_)
          · exact absurd hb (by simp [wayOK, h5, h17, h21, h30, h36])
          · iterate 2 refine h_s rfl ?_
            refine hq_v rfl rfl rfl a54 rfl rfl (m_finds R0 0 (by omega) _ (by decide)) (fun v1 w1 q1 => ?_)
            obtain ⟨rfl, q2, q3⟩ := q1
            exact h_ri rfl rfl ⟨rfl, q2, q3⟩
      · refine h_s rfl ?_
        refine h1_eq rfl rfl (fun h25 => ?_) (fun h25 => ?_)
        · iterate 2 refine h_s rfl ?_
          refine hq_v rfl rfl rfl a54 rfl rfl (m_finds R0 0 (by omega) _ (by decide)) (fun v1 w1 q1 => ?_)
          obtain ⟨rfl, q2, q3⟩ := q1
          exact h_ri rfl rfl ⟨rfl, q2, q3⟩
        · refine h_s rfl ?_
          refine h_k (y := 1) rfl rfl ?_
          refine h2_ne rfl rfl (fun h30 => ?_) (fun h30 => ?_)
          · exact absurd hb (by simp [wayOK, h5, h17, h21, h25, h30])
          · refine h_s rfl ?_
            refine h_k (y := 7) rfl rfl ?_
            refine h2_ne rfl rfl (fun h36 => ?_) (fun h36 => ?_)
            · exact absurd hb (by simp [wayOK, h5, h17, h21, h25, h30, h36])
            · iterate 2 refine h_s rfl ?_
              refine hq_v rfl rfl rfl a54 rfl rfl (m_finds R0 0 (by omega) _ (by decide)) (fun v1 w1 q1 => ?_)
              obtain ⟨rfl, q2, q3⟩ := q1
              exact h_ri rfl rfl ⟨rfl, q2, q3⟩
set_option maxRecDepth 100000 in
set_option maxHeartbeats 4000000 in
theorem m_stair_km (R : MW w s n st ks kp tp tn bo so nu) (h : Nat) (hh : h < n)  : ab_Q X kX6_stair [.ref 54, .int (nI h), .int (-1)] w (MP w (fld s h 1) (s.set (2 + 8 * h + 1) (-1)) n st ks kp tp tn bo so nu) := by
  have M := R.ms
  have R0 := R
  obtain ⟨oth, nz, mv, fr, to, vl, wr, a54, a55, a56, a57, a58, a59, a60, a61, a62, a63, a64, l, h0, hn, ht⟩ := R
  show ab_H X kX6_stair 0 [some (.ref 54), some (.int (nI h)), some (.int (-1)), none] [] w _
  iterate 2 refine h_s rfl ?_
  refine h_cv rfl rfl rfl a54 rfl rfl (m_isHouse1 M ⟨h, by omega, rfl⟩) ?_
  iterate 5 refine h_s rfl ?_
  refine h_c rfl (m_in1 (x := (-1)) (lo := -1) (hi := 1) rfl rfl (by decide)) ?_
  iterate 4 refine h_s rfl ?_
  refine h_k (y := 1) rfl rfl ?_
  iterate 3 refine h_s rfl ?_
  refine h_k (y := 1) rfl rfl ?_
  refine h_cv rfl rfl rfl a54 rfl rfl (m_its M h 1 (by omega) (by omega) rfl rfl) ?_
  iterate 2 refine h_s rfl ?_
  refine h_gf rfl rfl rfl a54 rfl ?_
  refine h_s rfl ?_
  refine h_k (y := 1) rfl rfl ?_
  refine h_c rfl (m_at h 1 rfl rfl) ?_
  iterate 2 refine h_s rfl ?_
  refine h_k (y := (-1)) rfl rfl ?_
  refine h_s rfl ?_
  refine h_is (2 + 8 * h + 1) rfl a55 (by omega) rfl (by omega) (fun w1 e1 f1 => ?_)
  refine h_s rfl ?_
  exact h_ri rfl rfl ⟨rfl, R0.sj e1 (by omega) f1, fun i hi => f1 i (by omega)⟩
set_option maxRecDepth 100000 in
set_option maxHeartbeats 4000000 in
theorem m_stair_k0 (R : MW w s n st ks kp tp tn bo so nu) (h : Nat) (hh : h < n) (h0' : 0 < h) : ab_Q X kX6_stair [.ref 54, .int (nI h), .int 0] w (MP w (fld s h 1) (s.set (2 + 8 * h + 1) (nI (h - 1))) n st ks kp tp tn bo so nu) := by
  have M := R.ms
  have R0 := R
  obtain ⟨oth, nz, mv, fr, to, vl, wr, a54, a55, a56, a57, a58, a59, a60, a61, a62, a63, a64, l, h0, hn, ht⟩ := R
  show ab_H X kX6_stair 0 [some (.ref 54), some (.int (nI h)), some (.int 0), none] [] w _
  iterate 2 refine h_s rfl ?_
  refine h_cv rfl rfl rfl a54 rfl rfl (m_isHouse1 M ⟨h, by omega, rfl⟩) ?_
  iterate 5 refine h_s rfl ?_
  refine h_c rfl (m_in1 (x := 0) (lo := -1) (hi := 1) rfl rfl (by decide)) ?_
  iterate 4 refine h_s rfl ?_
  refine h1_eq rfl rfl (fun h25 => absurd h25 (nI_ne0 h0' (by omega))) (fun h25 => ?_)
  refine h_s rfl ?_
  refine h_k (y := 1) rfl rfl ?_
  iterate 3 refine h_s rfl ?_
  refine h_k (y := 1) rfl rfl ?_
  refine h_cv rfl rfl rfl a54 rfl rfl (m_its M h 1 (by omega) (by omega) rfl rfl) ?_
  iterate 2 refine h_s rfl ?_
  refine h_gf rfl rfl rfl a54 rfl ?_
  refine h_s rfl ?_
  refine h_k (y := 1) rfl rfl ?_
  refine h_c rfl (m_at h 1 rfl rfl) ?_
  iterate 5 refine h_s rfl ?_
  refine h_k (y := 1) rfl rfl ?_
  refine h_s rfl ?_
  refine h_t (pk_sub (a := h) (b := 1) (by omega)) ?_
  refine h_s rfl ?_
  refine h_is (2 + 8 * h + 1) rfl a55 (by omega) rfl (by omega) (fun w1 e1 f1 => ?_)
  refine h_s rfl ?_
  exact h_ri rfl rfl ⟨rfl, R0.sj e1 (by omega) f1, fun i hi => f1 i (by omega)⟩
set_option maxRecDepth 100000 in
set_option maxHeartbeats 4000000 in
theorem m_stair_k1 (R : MW w s n st ks kp tp tn bo so nu) (h : Nat) (hh : h < n) (h7' : h < 7) : ab_Q X kX6_stair [.ref 54, .int (nI h), .int 1] w (MP w (fld s h 1) (s.set (2 + 8 * h + 1) (nI (h + 1))) n st ks kp tp tn bo so nu) := by
  have M := R.ms
  have R0 := R
  obtain ⟨oth, nz, mv, fr, to, vl, wr, a54, a55, a56, a57, a58, a59, a60, a61, a62, a63, a64, l, h0, hn, ht⟩ := R
  show ab_H X kX6_stair 0 [some (.ref 54), some (.int (nI h)), some (.int 1), none] [] w _
  iterate 2 refine h_s rfl ?_
  refine h_cv rfl rfl rfl a54 rfl rfl (m_isHouse1 M ⟨h, by omega, rfl⟩) ?_
  iterate 5 refine h_s rfl ?_
  refine h_c rfl (m_in1 (x := 1) (lo := -1) (hi := 1) rfl rfl (by decide)) ?_
  iterate 4 refine h_s rfl ?_
  refine h_k (y := 1) rfl rfl ?_
  iterate 2 refine h_s rfl ?_
  refine h_k (y := 7) rfl rfl ?_
  refine h2_ne rfl rfl (fun h36 => ?_) (fun h36 => absurd h36 (show ¬ nI h = nI 7 from fun q => by rw [nI_eq (by omega) (by omega)] at q; omega))
  iterate 2 refine h_s rfl ?_
  refine h_k (y := 1) rfl rfl ?_
  refine h_cv rfl rfl rfl a54 rfl rfl (m_its M h 1 (by omega) (by omega) rfl rfl) ?_
  iterate 2 refine h_s rfl ?_
  refine h_gf rfl rfl rfl a54 rfl ?_
  refine h_s rfl ?_
  refine h_k (y := 1) rfl rfl ?_
  refine h_c rfl (m_at h 1 rfl rfl) ?_
  iterate 5 refine h_s rfl ?_
  refine h_k (y := 1) rfl rfl ?_
  refine h_s rfl ?_
  refine h_t (nI_1 h) ?_
  refine h_is (2 + 8 * h + 1) rfl a55 (by omega) rfl (by omega) (fun w1 e1 f1 => ?_)
  refine h_s rfl ?_
  exact h_ri rfl rfl ⟨rfl, R0.sj e1 (by omega) f1, fun i hi => f1 i (by omega)⟩
set_option maxRecDepth 100000 in
set_option maxHeartbeats 4000000 in
theorem m_as_m (R : MW w s n st ks kp tp tn bo so nu) (k j : Nat) (hk : k < 10) (hj : j < 7) (hs : s.getD (80 + k) 0 = -1) : ab_Q X kX6_as [.ref 54, .int (nI k), .int (nI j)] w (MP w (-1000006) s n (bump st 5) ks kp tp tn bo so nu) := by
  have M := R.ms
  have R0 := R
  obtain ⟨oth, nz, mv, fr, to, vl, wr, a54, a55, a56, a57, a58, a59, a60, a61, a62, a63, a64, l, h0, hn, ht⟩ := R
  show ab_H X kX6_as 0 [some (.ref 54), some (.int (nI k)), some (.int (nI j)), none, none, none] [] w _
  iterate 4 refine h_s rfl ?_
  refine h_c rfl (m_in1 (lo := 0) (hi := 9) rfl rfl (by rw [nI_toInt (by omega)]; omega)) ?_
  iterate 5 refine h_s rfl ?_
  refine h_c rfl (m_in1 (lo := 0) (hi := 6) rfl rfl (by rw [nI_toInt (by omega)]; omega)) ?_
  iterate 2 refine h_s rfl ?_
  refine h_gf rfl rfl rfl a54 rfl ?_
  refine h_k (y := 80) rfl rfl ?_
  iterate 2 refine h_s rfl ?_
  refine h_ia (80 + k) rfl a55 (by omega) (nI_add 80 k) (by omega) ?_
  refine h_t hs ?_
  iterate 5 refine h_s rfl ?_
  refine hq_v rfl rfl rfl a54 rfl rfl (m_finds R0 5 (by omega) _ (by decide)) (fun v1 w1 q1 => ?_)
  obtain ⟨rfl, q2, q3⟩ := q1
  exact h_ri rfl rfl ⟨rfl, q2, q3⟩
set_option maxRecDepth 100000 in
set_option maxHeartbeats 4000000 in
theorem m_as_k (R : MW w s n st ks kp tp tn bo so nu) (k j h : Nat) (hk : k < 10) (hj : j < 7) (hh : h < n) (hs : s.getD (80 + k) 0 = nI h) : ab_Q X kX6_as [.ref 54, .int (nI k), .int (nI j)] w (fun v w1 => if asI (fld s h 0) (nI j) = true then MP w (nI h) s n st ks kp tp tn bo so nu v w1 else MP w (-1000003) s n (bump st 2) ks kp tp tn bo so nu v w1) := by
  have M := R.ms
  have R0 := R
  obtain ⟨oth, nz, mv, fr, to, vl, wr, a54, a55, a56, a57, a58, a59, a60, a61, a62, a63, a64, l, h0, hn, ht⟩ := R
  show ab_H X kX6_as 0 [some (.ref 54), some (.int (nI k)), some (.int (nI j)), none, none, none] [] w _
  iterate 4 refine h_s rfl ?_
  refine h_c rfl (m_in1 (lo := 0) (hi := 9) rfl rfl (by rw [nI_toInt (by omega)]; omega)) ?_
  iterate 5 refine h_s rfl ?_
  refine h_c rfl (m_in1 (lo := 0) (hi := 6) rfl rfl (by rw [nI_toInt (by omega)]; omega)) ?_
  iterate 2 refine h_s rfl ?_
  refine h_gf rfl rfl rfl a54 rfl ?_
  refine h_k (y := 80) rfl rfl ?_
  iterate 2 refine h_s rfl ?_
  refine h_ia (80 + k) rfl a55 (by omega) (nI_add 80 k) (by omega) ?_
  refine h_t hs ?_
  iterate 2 refine h_s rfl ?_
  refine h1_ge rfl rfl (fun h42 => ?_) (fun h42 => absurd (nI_pos' (by omega)) h42)
  iterate 2 refine h_s rfl ?_
  refine h_k (y := 0) rfl rfl ?_
  refine h_cv rfl rfl rfl a54 rfl rfl (m_its M h 0 (by omega) (by omega) rfl rfl) ?_
  iterate 2 refine h_s rfl ?_
  refine h1_eq rfl rfl (fun h62 => ?_) (fun h62 => ?_)
  · refine h_k (y := 1) rfl rfl ?_
    iterate 6 refine h_s rfl ?_
    exact h_ri rfl rfl (by rw [if_pos (by clear R0 M a54 a55 a56 a57 a58 a59 a60 a61 a62 a63 a64 l; first | (simp [asI, h62]; done) | simp_all [asI])]; exact MP.same R0 _)
  · iterate 2 refine h_s rfl ?_
    refine h2_eq rfl rfl (fun h68 => ?_) (fun h68 => ?_)
    · refine h_k (y := 1) rfl rfl ?_
      iterate 6 refine h_s rfl ?_
      exact h_ri rfl rfl (by rw [if_pos (by clear R0 M a54 a55 a56 a57 a58 a59 a60 a61 a62 a63 a64 l; first | (simp [asI, h62, h68]; done) | simp_all [asI])]; exact MP.same R0 _)
    · refine h_s rfl ?_
      refine h_k (y := 1) rfl rfl ?_
      refine h2_ne rfl rfl (fun h73 => ?_) (fun h73 => ?_)
      · refine h_s rfl ?_
        refine h_k (y := 2) rfl rfl ?_
        refine h2_ne rfl rfl (fun h91 => ?_) (fun h91 => ?_)
        · refine h_k (y := 0) rfl rfl ?_
          iterate 5 refine h_s rfl ?_
          refine hq_v rfl rfl rfl a54 rfl rfl (m_finds R0 2 (by omega) _ (by decide)) (fun v1 w1 q1 => ?_)
          obtain ⟨rfl, q2, q3⟩ := q1
          exact h_ri rfl rfl (by rw [if_neg (by clear R0 M a54 a55 a56 a57 a58 a59 a60 a61 a62 a63 a64 l; first | (simp [asI, h62, h68, h73, h91]; done) | simp_all [asI])]; exact ⟨rfl, q2, q3⟩)
        · refine h_s rfl ?_
          refine h_k (y := 3) rfl rfl ?_
          refine h2_ne rfl rfl (fun h97 => ?_) (fun h97 => ?_)
          · refine h_k (y := 0) rfl rfl ?_
            iterate 5 refine h_s rfl ?_
            refine hq_v rfl rfl rfl a54 rfl rfl (m_finds R0 2 (by omega) _ (by decide)) (fun v1 w1 q1 => ?_)
            obtain ⟨rfl, q2, q3⟩ := q1
            exact h_ri rfl rfl (by rw [if_neg (by clear R0 M a54 a55 a56 a57 a58 a59 a60 a61 a62 a63 a64 l; first | (simp [asI, h62, h68, h73, h91, h97]; done) | simp_all [asI])]; exact ⟨rfl, q2, q3⟩)
          · refine h_k (y := 1) rfl rfl ?_
            iterate 6 refine h_s rfl ?_
            exact h_ri rfl rfl (by rw [if_pos (by clear R0 M a54 a55 a56 a57 a58 a59 a60 a61 a62 a63 a64 l; first | (simp [asI, h62, h68, h73, h91, h97]; done) | simp_all [asI])]; exact MP.same R0 _)
      · refine h_s rfl ?_
        refine h_k (y := 4) rfl rfl ?_
        refine h2_eq rfl rfl (fun h79 => ?_) (fun h79 => ?_)
        · refine h_k (y := 1) rfl rfl ?_
          iterate 6 refine h_s rfl ?_
          exact h_ri rfl rfl (by rw [if_pos (by clear R0 M a54 a55 a56 a57 a58 a59 a60 a61 a62 a63 a64 l; first | (simp [asI, h62, h68, h73, h79]; done) | simp_all [asI])]; exact MP.same R0 _)
        · refine h_s rfl ?_
          refine h_k (y := 6) rfl rfl ?_
          refine h2_eq rfl rfl (fun h86 => ?_) (fun h86 => ?_)
          · refine h_k (y := 1) rfl rfl ?_
            iterate 6 refine h_s rfl ?_
            exact h_ri rfl rfl (by rw [if_pos (by clear R0 M a54 a55 a56 a57 a58 a59 a60 a61 a62 a63 a64 l; first | (simp [asI, h62, h68, h73, h79, h86]; done) | simp_all [asI])]; exact MP.same R0 _)
          · refine h_s rfl ?_
            refine h_k (y := 2) rfl rfl ?_
            refine h2_ne rfl rfl (fun h91 => ?_) (fun h91 => ?_)
            · refine h_k (y := 0) rfl rfl ?_
              iterate 5 refine h_s rfl ?_
              refine hq_v rfl rfl rfl a54 rfl rfl (m_finds R0 2 (by omega) _ (by decide)) (fun v1 w1 q1 => ?_)
              obtain ⟨rfl, q2, q3⟩ := q1
              exact h_ri rfl rfl (by rw [if_neg (by clear R0 M a54 a55 a56 a57 a58 a59 a60 a61 a62 a63 a64 l; first | (simp [asI, h62, h68, h73, h79, h86, h91]; done) | simp_all [asI])]; exact ⟨rfl, q2, q3⟩)
            · refine h_s rfl ?_
              refine h_k (y := 3) rfl rfl ?_
              refine h2_ne rfl rfl (fun h97 => ?_) (fun h97 => ?_)
              · refine h_k (y := 0) rfl rfl ?_
                iterate 5 refine h_s rfl ?_
                refine hq_v rfl rfl rfl a54 rfl rfl (m_finds R0 2 (by omega) _ (by decide)) (fun v1 w1 q1 => ?_)
                obtain ⟨rfl, q2, q3⟩ := q1
                exact h_ri rfl rfl (by rw [if_neg (by clear R0 M a54 a55 a56 a57 a58 a59 a60 a61 a62 a63 a64 l; first | (simp [asI, h62, h68, h73, h79, h86, h91, h97]; done) | simp_all [asI])]; exact ⟨rfl, q2, q3⟩)
              · refine h_k (y := 1) rfl rfl ?_
                iterate 6 refine h_s rfl ?_
                exact h_ri rfl rfl (by rw [if_pos (by clear R0 M a54 a55 a56 a57 a58 a59 a60 a61 a62 a63 a64 l; first | (simp [asI, h62, h68, h73, h79, h86, h91, h97]; done) | simp_all [asI])]; exact MP.same R0 _)
end MB
