/-! THE REFERENCE: what it keeps, its findings -/
def inN (x : Int32) (n : Nat) : Bool := decide (0 ≤ x.toInt ∧ x.toInt < n)
theorem inN_iff {x : Int32} {n : Nat} (hn : n < 2 ^ 31) : inN x n = true ↔ isN x n := by
  unfold inN
  rw [isN_iff hn, decide_eq_true_eq]
theorem inN_t {x : Int32} {n : Nat} (hn : n < 2 ^ 31) (h : inN x n = true) : ∃ j, j < n ∧ x = nI j := (inN_iff hn).mp h
theorem inN_n {j n : Nat} (hn : n < 2 ^ 31) (h : j < n) : inN (nI j) n = true := (inN_iff hn).mpr ⟨j, h, rfl⟩
theorem inN_f {x : Int32} {n : Nat} (hn : n < 2 ^ 31) (h : inN x n = false) : ¬ isN x n := fun q => by rw [← inN_iff hn, h] at q; cases q
def mObj (kp : Bool) (tn : Nat) (fr to vl : Int32) (wr : Bool) : List Value := [.ref 55, .ref 56, .ref 57, .ref 58, .int (z01 kp), .ref 59, .ref 60, .int (nI tn), .int fr, .int to, .int vl, .int (z01 wr), .ref 61, .ref 62, .ref 63, .ref 64]
/-- the reference's object and all that it keeps -/
def MW (w : ab_W) (s : List Int32) (n : Nat) (st ks : List Int32) (kp : Bool) (tp : List Int32) (tn : Nat) (bo so nu : List Int32) : Prop :=
  ∃ oth nz mv fr to vl wr, w[54]? = some (.inl (6, mObj kp tn fr to vl wr)) ∧ w[55]? = some (.inr s) ∧ w[56]? = some (.inr ks) ∧ w[57]? = some (.inr oth) ∧ w[58]? = some (.inr st) ∧ w[59]? = some (.inr nz) ∧ w[60]? = some (.inr tp) ∧ w[61]? = some (.inr bo) ∧ w[62]? = some (.inr so) ∧ w[63]? = some (.inr nu) ∧ w[64]? = some (.inr mv) ∧ (s.length = 90 ∧ ks.length = 90 ∧ oth.length = 90 ∧ st.length = 7 ∧ nz.length = 16 ∧ tp.length = 120 ∧ bo.length = 4 ∧ so.length = 4 ∧ nu.length = 160 ∧ mv.length = 40) ∧ s.getD 0 0 = nI n ∧ n ≤ 8 ∧ tn ≤ 120
/-- what a call of the reference tells and leaves -/
def MP (w : ab_W) (r : Int32) (s : List Int32) (n : Nat) (st ks : List Int32) (kp : Bool) (tp : List Int32) (tn : Nat) (bo so nu : List Int32) (v : Option Value) (w' : ab_W) : Prop :=
  v = some (.int r) ∧ MW w' s n st ks kp tp tn bo so nu ∧ ∀ i, i < 54 → w'[i]? = w[i]?
def bump (st : List Int32) (f : Nat) : List Int32 := st.set f (st.getD f 0 + 1)
section M7
variable {X : List Int32} {w : ab_W} {s : List Int32} {n : Nat} {st ks : List Int32} {kp : Bool} {tp : List Int32} {tn : Nat} {bo so nu : List Int32}
theorem MW.ms (R : MW w s n st ks kp tp tn bo so nu) : MS w s n := by
  obtain ⟨oth, nz, mv, fr, to, vl, wr, a54, a55, a56, a57, a58, a59, a60, a61, a62, a63, a64, l, h0, hn, ht⟩ := R
  exact ⟨_, a54, rfl, a55, l.1, h0, hn⟩
theorem MW.n8 (R : MW w s n st ks kp tp tn bo so nu) : n ≤ 8 := by
  obtain ⟨oth, nz, mv, fr, to, vl, wr, a54, a55, a56, a57, a58, a59, a60, a61, a62, a63, a64, l, h0, hn, ht⟩ := R
  exact hn
theorem MW.st58 (R : MW w s n st ks kp tp tn bo so nu) {w1 : ab_W} {st1 : List Int32} (h : w1[58]? = some (.inr st1)) (hl : st1.length = 7) (hf : ∀ i, i ≠ 58 → w1[i]? = w[i]?) : MW w1 s n st1 ks kp tp tn bo so nu := by
  obtain ⟨oth, nz, mv, fr, to, vl, wr, a54, a55, a56, a57, a58, a59, a60, a61, a62, a63, a64, l, h0, hn, ht⟩ := R
  exact ⟨oth, nz, mv, fr, to, vl, wr, by rw [hf _ (by decide)]; exact a54, by rw [hf _ (by decide)]; exact a55, by rw [hf _ (by decide)]; exact a56, by rw [hf _ (by decide)]; exact a57, h, by rw [hf _ (by decide)]; exact a59, by rw [hf _ (by decide)]; exact a60, by rw [hf _ (by decide)]; exact a61, by rw [hf _ (by decide)]; exact a62, by rw [hf _ (by decide)]; exact a63, by rw [hf _ (by decide)]; exact a64, ⟨l.1, l.2.1, l.2.2.1, hl, l.2.2.2.2⟩, h0, hn, ht⟩
theorem MW.s55 (R : MW w s n st ks kp tp tn bo so nu) {w1 : ab_W} {s1 : List Int32} {n1 : Nat} (h : w1[55]? = some (.inr s1)) (hl : s1.length = 90) (h1 : s1.getD 0 0 = nI n1) (h8 : n1 ≤ 8) (hf : ∀ i, i ≠ 55 → w1[i]? = w[i]?) : MW w1 s1 n1 st ks kp tp tn bo so nu := by
  obtain ⟨oth, nz, mv, fr, to, vl, wr, a54, a55, a56, a57, a58, a59, a60, a61, a62, a63, a64, l, h0, hn, ht⟩ := R
  exact ⟨oth, nz, mv, fr, to, vl, wr, by rw [hf _ (by decide)]; exact a54, h, by rw [hf _ (by decide)]; exact a56, by rw [hf _ (by decide)]; exact a57, by rw [hf _ (by decide)]; exact a58, by rw [hf _ (by decide)]; exact a59, by rw [hf _ (by decide)]; exact a60, by rw [hf _ (by decide)]; exact a61, by rw [hf _ (by decide)]; exact a62, by rw [hf _ (by decide)]; exact a63, by rw [hf _ (by decide)]; exact a64, ⟨hl, l.2⟩, h1, h8, ht⟩
theorem MP.same (R : MW w s n st ks kp tp tn bo so nu) (r : Int32) : MP w r s n st ks kp tp tn bo so nu (some (.int r)) w := ⟨rfl, R, fun _ _ => rfl⟩
theorem m_isHouse (M : MS w s n) (x : Int32) : ab_M X kX6_isHouse [.ref 54, .int x] w (some (.int (z01 (inN x n)))) w := by
  have hn : n ≤ 8 := M.choose_spec.2.2.2.2.2
  cases h : inN x n with
  | true => exact m_isHouse1 M ((inN_iff (by omega)).mp h)
  | false => exact m_isHouse0 M (inN_f (by omega) h)
theorem m_isRoom (M : MS w s n) (x : Int32) : ab_M X kX6_isRoom [.ref 54, .int x] w (some (.int (z01 (inN x (2 * n))))) w := by
  have hn : n ≤ 8 := M.choose_spec.2.2.2.2.2
  cases h : inN x (2 * n) with
  | true => exact m_isRoom1 M ((inN_iff (by omega)).mp h)
  | false => exact m_isRoom0 M (inN_f (by omega) h)
theorem m_isClock (x : Int32) : ab_M X kX6_isClock [.int x] w (some (.int (z01 (inN x 24)))) w := by
  cases h : inN x 24 with
  | true => exact m_isClock1 ((inN_iff (by omega)).mp h)
  | false => exact m_isClock0 (inN_f (by omega) h)
theorem m_isAsk (M : MS w s n) (x c : Int32) : ab_M X kX6_isAsk [.ref 54, .int x, .int c] w (some (.int (z01 (inN x n && inN c 24)))) w := by
  have hn : n ≤ 8 := M.choose_spec.2.2.2.2.2
  cases h : inN x n && inN c 24 with
  | true =>
    rw [Bool.and_eq_true, inN_iff (by omega), inN_iff (by omega)] at h
    exact m_isAsk1 M h.1 h.2
  | false => exact m_isAsk0 M (fun q => by rw [← inN_iff (by omega), ← inN_iff (by omega), ← Bool.and_eq_true, h] at q; cases q)
theorem m_inZ (x : Int32) {b c : Int64} {m : Nat} (hb : b.toInt = 0) (hc : c.toInt = (m : Int) - 1) : ab_M X kX6_in [.long x.toInt64, .long b, .long c] w (some (.int (z01 (inN x m)))) w := by
  unfold inN
  by_cases h : 0 ≤ x.toInt ∧ x.toInt < m
  · rw [decide_eq_true h]
    exact m_in1 hb hc (by omega)
  · rw [decide_eq_false h]
    exact m_in0 hb hc (by omega)
theorem m_ones_s : ∀ m, m < 256 → ¬ m = 0 → (nI m &&& (nI m - 1) = nI (m &&& (m - 1)) ∧ (m &&& (m - 1)) < 256) ∧ cntR (bt (nI m)) 8 = cntR (bt (nI (m &&& (m - 1)))) 8 + 1 := by decide +kernel
set_option maxRecDepth 100000 in
set_option maxHeartbeats 4000000 in
theorem m_ones (m : Nat) (hm : m < 256) : ab_M X kX6_ones [.int (nI m)] w (some (.int (nI (cntR (bt (nI m)) 8)))) w := by
  show ab_G X kX6_ones 0 [some (.int (nI m)), none, none] [] w _ _
  refine ab_k (y := 0) rfl rfl ?_
  iterate 3 refine ab_s rfl ?_
  refine g_loop0 9 (fun i ls => ∃ k, k < 256 ∧ i + cntR (bt (nI k)) 8 = cntR (bt (nI m)) 8 ∧ ls = [some (.int (nI m)), some (.int (nI i)), some (.int (nI k))]) ⟨m, hm, by omega, rfl⟩ (fun i ls hi hJ ih => ?_) (fun ls hJ => ?_)
  · obtain ⟨k, hk, hc, rfl⟩ := hJ
    refine ab_s rfl ?_
    refine j1_eq rfl rfl (fun h5 => ?_) (fun h5 => ?_)
    · refine ab_s rfl ?_
      rw [h5, show cntR (bt 0) 8 = 0 from by decide +kernel] at hc
      exact ab_ri rfl (congrArg nI (by omega))
    · refine ab_ii rfl rfl rfl ?_
      iterate 2 refine ab_s rfl ?_
      refine ab_k (y := 1) rfl rfl ?_
      iterate 4 refine ab_s rfl ?_
      have hk0 : ¬ k = 0 := fun q => h5 (by rw [q]; rfl)
      obtain ⟨⟨e1, e2⟩, e3⟩ := m_ones_s k hk hk0
      exact ih _ ⟨k &&& (k - 1), e2, by omega, by rw [← e1]; rfl⟩
  · obtain ⟨k, hk, hc, rfl⟩ := hJ
    have := cntR_le (bt (nI m)) 8
    omega
set_option maxRecDepth 100000 in
set_option maxHeartbeats 4000000 in
theorem m_lowest (x : Int32) (k : Nat) (hk : k < 32) (h1 : bt x k = true) (h2 : ∀ j, j < k → bt x j = false) : ab_M X kX6_lowest [.int x] w (some (.int (nI k))) w := by
  show ab_G X kX6_lowest 0 [some (.int x), none] [] w _ _
  refine ab_k (y := 0) rfl rfl ?_
  refine ab_s rfl ?_
  refine g_loop0 k (fun i ls => ls = [some (.int x), some (.int (nI i))]) rfl (fun i ls hi hJ ih => ?_) (fun ls hJ => ?_)
  · subst hJ
    iterate 2 refine ab_s rfl ?_
    refine ab_c rfl (m_has i (by omega)) ?_
    refine z1_ne rfl rfl (fun h7 => absurd h7 (by rw [h2 i hi]; decide)) (fun h7 => ?_)
    refine ab_ii rfl rfl rfl ?_
    refine ab_s rfl ?_
    exact ih _ rfl
  · subst hJ
    iterate 2 refine ab_s rfl ?_
    refine ab_c rfl (m_has k (by omega)) ?_
    refine z1_ne rfl rfl (fun h7 => ?_) (fun h7 => absurd h7 (by rw [h1]; decide))
    refine ab_s rfl ?_
    exact ab_ri rfl rfl
set_option maxRecDepth 100000 in
set_option maxHeartbeats 4000000 in
theorem m_finds (R : MW w s n st ks kp tp tn bo so nu) (f : Nat) (hf : f < 7) (x : Int32) (hx : -1000001 - x = nI f) : ab_Q X kX6_finds [.ref 54, .int x] w (MP w x s n (bump st f) ks kp tp tn bo so nu) := by
  have R0 := R
  obtain ⟨oth, nz, mv, fr, to, vl, wr, a54, a55, a56, a57, a58, a59, a60, a61, a62, a63, a64, l, h0, hn, ht⟩ := R
  show ab_H X kX6_finds 0 [some (.ref 54), some (.int x)] [] w _
  refine h_s rfl ?_
  refine h_gf rfl rfl rfl a54 rfl ?_
  iterate 4 refine h_s rfl ?_
  refine h_ia f rfl a58 (by omega) hx (by omega) ?_
  refine h_k (y := 1) rfl rfl ?_
  refine h_s rfl ?_
  refine h_is f rfl a58 (by omega) hx (by omega) (fun w1 e1 f1 => ?_)
  refine h_s rfl ?_
  exact h_ri rfl rfl ⟨rfl, R0.st58 e1 ((List.length_set ..).trans l.2.2.2.1) f1, fun i hi => f1 i (by omega)⟩
end M7
