/-! THE REFERENCE: reads of a row of houses -/
/-- the reference's object and its row s stand in the world -/
def MS (w : ab_W) (s : List Int32) (n : Nat) : Prop := ∃ vs, w[54]? = some (.inl (6, vs)) ∧ vs[0]? = some (.ref 55) ∧ w[55]? = some (.inr s) ∧ s.length = 90 ∧ s.getD 0 0 = nI n ∧ n ≤ 8
def fld (s : List Int32) (h k : Nat) : Int32 := s.getD (2 + 8 * h + k) 0
section M1
variable {X : List Int32} {w : ab_W} {s : List Int32} {n : Nat}
set_option maxRecDepth 100000 in
theorem m_in {a b c : Int64} : ab_M X kX6_in [.long a, .long b, .long c] w (some (.int (z01 (decide (b ≤ a) && decide (a ≤ c))))) w := by
  show ab_G X kX6_in 0 [some (.long a), none, some (.long b), none, some (.long c), none] [] w _ _
  have e1 : ∀ x y : Int64, lg_cmp x y < 0 ↔ ¬ y ≤ x := by
    intro x y
    unfold lg_cmp
    by_cases h1 : y < x
    · rw [if_pos h1]
      have := Int64.le_of_lt h1
      simp [this]
    · by_cases h2 : x = y
      · rw [if_neg h1, if_pos h2]
        simp [h2]
      · rw [if_neg h1, if_neg h2]
        have h3 : ¬ y ≤ x := by
          intro h3
          rw [Int64.le_iff_toInt_le] at h3
          rw [Int64.lt_iff_toInt_lt] at h1
          exact h2 (Int64.toInt_inj.mp (by omega))
        simp [h3]
  have e2 : ∀ x y : Int64, 0 < lg_cmp x y ↔ ¬ x ≤ y := by
    intro x y
    unfold lg_cmp
    by_cases h1 : y < x
    · rw [if_pos h1]
      have h3 : ¬ x ≤ y := by
        intro h3
        rw [Int64.le_iff_toInt_le] at h3
        rw [Int64.lt_iff_toInt_lt] at h1
        omega
      simp [h3]
    · have h3 : x ≤ y := by
        rw [Int64.lt_iff_toInt_lt] at h1
        rw [Int64.le_iff_toInt_le]
        omega
      by_cases h2 : x = y
      · rw [if_neg h1, if_pos h2]
        simp [h3]
      · rw [if_neg h1, if_neg h2]
        simp [h3]
  iterate 3 refine ab_s rfl ?_
  refine j1_lt rfl rfl (fun h3 => ?_) (fun h3 => ?_)
  · refine ab_k (y := 0) rfl rfl ?_
    exact ab_ri rfl (by (try rw [e1] at h3); (try rw [e2] at h10); simp_all only [z01, decide_true, decide_false, Bool.and_self, Bool.and_true, Bool.and_false, Bool.false_and, Bool.true_and, not_true_eq_false, not_false_eq_true, Classical.not_not])
  · iterate 3 refine ab_s rfl ?_
    refine j1_gt rfl rfl (fun h10 => ?_) (fun h10 => ?_)
    · refine ab_k (y := 0) rfl rfl ?_
      exact ab_ri rfl (by (try rw [e1] at h3); (try rw [e2] at h10); simp_all only [z01, decide_true, decide_false, Bool.and_self, Bool.and_true, Bool.and_false, Bool.false_and, Bool.true_and, not_true_eq_false, not_false_eq_true, Classical.not_not])
    · refine ab_k (y := 1) rfl rfl ?_
      refine ab_s rfl ?_
      exact ab_ri rfl (by (try rw [e1] at h3); (try rw [e2] at h10); simp_all only [z01, decide_true, decide_false, Bool.and_self, Bool.and_true, Bool.and_false, Bool.false_and, Bool.true_and, not_true_eq_false, not_false_eq_true, Classical.not_not])
theorem m_in1 {x : Int32} {b c : Int64} {lo hi : Int} (hb : b.toInt = lo) (hc : c.toInt = hi) (h : lo ≤ x.toInt ∧ x.toInt ≤ hi) : ab_M X kX6_in [.long x.toInt64, .long b, .long c] w (some (.int 1)) w := by
  have := m_in (X := X) (w := w) (a := x.toInt64) (b := b) (c := c)
  rw [show (decide (b ≤ x.toInt64) && decide (x.toInt64 ≤ c)) = true by
    simp only [Int64.le_iff_toInt_le, Int32.toInt_toInt64, hb, hc, Bool.and_eq_true, decide_eq_true_eq]
    exact h] at this
  exact this
theorem m_in0 {x : Int32} {b c : Int64} {lo hi : Int} (hb : b.toInt = lo) (hc : c.toInt = hi) (h : ¬ (lo ≤ x.toInt ∧ x.toInt ≤ hi)) : ab_M X kX6_in [.long x.toInt64, .long b, .long c] w (some (.int 0)) w := by
  have := m_in (X := X) (w := w) (a := x.toInt64) (b := b) (c := c)
  rw [show (decide (b ≤ x.toInt64) && decide (x.toInt64 ≤ c)) = false by
    apply Bool.eq_false_iff.mpr
    simp only [Int64.le_iff_toInt_le, Int32.toInt_toInt64, hb, hc, Bool.and_eq_true, decide_eq_true_eq, ne_eq]
    exact h] at this
  exact this
set_option maxRecDepth 100000 in
theorem m_has {x : Int32} (j : Nat) (hj : j < 32) : ab_M X kX6_has [.int x, .int (nI j)] w (some (.int (z01 (bt x j)))) w := by
  show ab_G X kX6_has 0 [some (.int x), some (.int (nI j))] [] w _ _
  iterate 3 refine ab_s rfl ?_
  refine ab_k (y := 1) rfl rfl ?_
  refine ab_s rfl ?_
  refine ab_t (x := (x >>> (nI j &&& 31)) &&& 1) (b_one x hj) ?_
  cases bt x j
  · iterate 3 refine ab_s rfl ?_
    exact ab_ri rfl rfl
  · iterate 4 refine ab_s rfl ?_
    exact ab_ri rfl rfl
set_option maxRecDepth 100000 in
theorem m_at (h k : Nat) {a b : Int32} (e1 : a = nI h) (e2 : b = nI k) : ab_M X kX6_at [.int a, .int b] w (some (.int (nI (2 + 8 * h + k)))) w := by
  show ab_G X kX6_at 0 [some (.int a), some (.int b)] [] w _ _
  refine ab_k (y := 2) rfl rfl ?_
  refine ab_k (y := 8) rfl rfl ?_
  iterate 5 refine ab_s rfl ?_
  exact ab_ri rfl (by rw [e1, e2, show (2 : Int32) = nI 2 from rfl, show (8 : Int32) = nI 8 from rfl, pk_mul, nI_add, nI_add])
set_option maxRecDepth 100000 in
theorem m_its (M : MS w s n) (h k : Nat) (hh : h < 8) (hk : k < 8) {a b : Int32} (e1 : a = nI h) (e2 : b = nI k) : ab_M X kX6_its [.ref 54, .int a, .int b] w (some (.int (fld s h k))) w := by
  obtain ⟨vs, hm, hv, hs, hl, h0, hn⟩ := M
  show ab_G X kX6_its 0 [some (.ref 54), some (.int a), some (.int b)] [] w _ _
  refine ab_s rfl ?_
  refine ab_gf rfl rfl rfl hm hv ?_
  iterate 2 refine ab_s rfl ?_
  refine ab_c rfl (m_at h k e1 e2) ?_
  refine ab_ia (2 + 8 * h + k) rfl hs (by omega) rfl (by omega) ?_
  exact ab_ri rfl rfl
theorem nsub1 {n : Nat} (h : n ≤ 8) : (nI n - 1).toInt64.toInt = (n : Int) - 1 := by
  rw [Int32.toInt_toInt64]
  match n, h with
  | 0, _ => decide
  | n + 1, h =>
    rw [nI_pred, nI_toInt (by omega)]
    omega
set_option maxRecDepth 100000 in
theorem m_isHouse1 (M : MS w s n) {x : Int32} (hx : isN x n) : ab_M X kX6_isHouse [.ref 54, .int x] w (some (.int 1)) w := by
  obtain ⟨vs, hm, hv, hs, hl, h0, hn⟩ := M
  rw [isN_iff (by omega)] at hx
  show ab_G X kX6_isHouse 0 [some (.ref 54), some (.int x)] [] w _ _
  iterate 4 refine ab_s rfl ?_
  refine ab_gf rfl rfl rfl hm hv ?_
  refine ab_k (y := 0) rfl rfl ?_
  refine ab_ia 0 rfl hs (by omega) rfl (by omega) ?_
  refine ab_t h0 ?_
  refine ab_k (y := 1) rfl rfl ?_
  iterate 2 refine ab_s rfl ?_
  refine ab_c rfl (m_in1 (lo := 0) (hi := (n : Int) - 1) rfl (nsub1 hn) (by omega)) ?_
  exact ab_ri rfl rfl
theorem nsub2 {n : Nat} (h : n ≤ 8) : (2 * nI n - 1).toInt64.toInt = 2 * (n : Int) - 1 := by
  rw [Int32.toInt_toInt64, show (2 : Int32) = nI 2 from rfl, pk_mul]
  match n, h with
  | 0, _ => decide
  | n + 1, h =>
    rw [show 2 * (n + 1) = 2 * n + 1 + 1 by omega, nI_pred, nI_toInt (by omega)]
    omega
set_option maxRecDepth 100000 in
theorem m_isRoom1 (M : MS w s n) {x : Int32} (hx : isN x (2 * n)) : ab_M X kX6_isRoom [.ref 54, .int x] w (some (.int 1)) w := by
  obtain ⟨vs, hm, hv, hs, hl, h0, hn⟩ := M
  rw [isN_iff (by omega)] at hx
  show ab_G X kX6_isRoom 0 [some (.ref 54), some (.int x)] [] w _ _
  iterate 3 refine ab_s rfl ?_
  refine ab_k (y := 2) rfl rfl ?_
  refine ab_s rfl ?_
  refine ab_gf rfl rfl rfl hm hv ?_
  refine ab_k (y := 0) rfl rfl ?_
  refine ab_ia 0 rfl hs (by omega) rfl (by omega) ?_
  refine ab_t h0 ?_
  refine ab_s rfl ?_
  refine ab_k (y := 1) rfl rfl ?_
  iterate 2 refine ab_s rfl ?_
  refine ab_c rfl (m_in1 (lo := 0) (hi := 2 * (n : Int) - 1) rfl (nsub2 hn) (by omega)) ?_
  exact ab_ri rfl rfl
set_option maxRecDepth 100000 in
theorem m_isClock1 {x : Int32} (hx : isN x 24) : ab_M X kX6_isClock [.int x] w (some (.int 1)) w := by
  rw [isN_iff (by omega)] at hx
  show ab_G X kX6_isClock 0 [some (.int x)] [] w _ _
  iterate 4 refine ab_s rfl ?_
  refine ab_c rfl (m_in1 (lo := 0) (hi := 23) rfl rfl (by omega)) ?_
  exact ab_ri rfl rfl
set_option maxRecDepth 100000 in
theorem m_isHouse0 (M : MS w s n) {x : Int32} (hx : ¬ isN x n) : ab_M X kX6_isHouse [.ref 54, .int x] w (some (.int 0)) w := by
  obtain ⟨vs, hm, hv, hs, hl, h0, hn⟩ := M
  rw [isN_iff (by omega)] at hx
  show ab_G X kX6_isHouse 0 [some (.ref 54), some (.int x)] [] w _ _
  iterate 4 refine ab_s rfl ?_
  refine ab_gf rfl rfl rfl hm hv ?_
  refine ab_k (y := 0) rfl rfl ?_
  refine ab_ia 0 rfl hs (by omega) rfl (by omega) ?_
  refine ab_t h0 ?_
  refine ab_k (y := 1) rfl rfl ?_
  iterate 2 refine ab_s rfl ?_
  refine ab_c rfl (m_in0 (lo := 0) (hi := (n : Int) - 1) rfl (nsub1 hn) (by omega)) ?_
  exact ab_ri rfl rfl

set_option maxRecDepth 100000 in
theorem m_isRoom0 (M : MS w s n) {x : Int32} (hx : ¬ isN x (2 * n)) : ab_M X kX6_isRoom [.ref 54, .int x] w (some (.int 0)) w := by
  obtain ⟨vs, hm, hv, hs, hl, h0, hn⟩ := M
  rw [isN_iff (by omega)] at hx
  show ab_G X kX6_isRoom 0 [some (.ref 54), some (.int x)] [] w _ _
  iterate 3 refine ab_s rfl ?_
  refine ab_k (y := 2) rfl rfl ?_
  refine ab_s rfl ?_
  refine ab_gf rfl rfl rfl hm hv ?_
  refine ab_k (y := 0) rfl rfl ?_
  refine ab_ia 0 rfl hs (by omega) rfl (by omega) ?_
  refine ab_t h0 ?_
  refine ab_s rfl ?_
  refine ab_k (y := 1) rfl rfl ?_
  iterate 2 refine ab_s rfl ?_
  refine ab_c rfl (m_in0 (lo := 0) (hi := 2 * (n : Int) - 1) rfl (nsub2 hn) (by omega)) ?_
  exact ab_ri rfl rfl
set_option maxRecDepth 100000 in
theorem m_isClock0 {x : Int32} (hx : ¬ isN x 24) : ab_M X kX6_isClock [.int x] w (some (.int 0)) w := by
  rw [isN_iff (by omega)] at hx
  show ab_G X kX6_isClock 0 [some (.int x)] [] w _ _
  iterate 4 refine ab_s rfl ?_
  refine ab_c rfl (m_in0 (lo := 0) (hi := 23) rfl rfl (by omega)) ?_
  exact ab_ri rfl rfl
set_option maxRecDepth 100000 in
theorem m_isAsk1 (M : MS w s n) {x c : Int32} (hx : isN x n) (hc : isN c 24) : ab_M X kX6_isAsk [.ref 54, .int x, .int c] w (some (.int 1)) w := by
  obtain ⟨vs, hm, -⟩ := id M
  show ab_G X kX6_isAsk 0 [some (.ref 54), some (.int x), some (.int c)] [] w _ _
  iterate 2 refine ab_s rfl ?_
  refine ab_cv rfl rfl rfl hm rfl rfl (m_isHouse1 M hx) ?_
  iterate 2 refine ab_s rfl ?_
  refine ab_c rfl (m_isClock1 hc) ?_
  refine ab_s rfl ?_
  refine ab_k (y := 1) rfl rfl ?_
  refine ab_s rfl ?_
  exact ab_ri rfl rfl
set_option maxRecDepth 100000 in
theorem m_isAsk0 (M : MS w s n) {x c : Int32} (hx : ¬ (isN x n ∧ isN c 24)) : ab_M X kX6_isAsk [.ref 54, .int x, .int c] w (some (.int 0)) w := by
  obtain ⟨vs, hm, -⟩ := id M
  show ab_G X kX6_isAsk 0 [some (.ref 54), some (.int x), some (.int c)] [] w _ _
  by_cases h : isN x n
  · have hc : ¬ isN c 24 := fun q => hx ⟨h, q⟩
    iterate 2 refine ab_s rfl ?_
    refine ab_cv rfl rfl rfl hm rfl rfl (m_isHouse1 M h) ?_
    iterate 2 refine ab_s rfl ?_
    refine ab_c rfl (m_isClock0 hc) ?_
    refine ab_s rfl ?_
    refine ab_k (y := 0) rfl rfl ?_
    exact ab_ri rfl rfl
  · iterate 2 refine ab_s rfl ?_
    refine ab_cv rfl rfl rfl hm rfl rfl (m_isHouse0 M h) ?_
    refine ab_s rfl ?_
    refine ab_k (y := 0) rfl rfl ?_
    exact ab_ri rfl rfl
end M1
