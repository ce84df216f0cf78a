/-! THE REFERENCE: write, load -/
theorem nsubN {z : Nat} (h : z < 2 ^ 30) : (nI z - 1).toInt64.toInt = (z : Int) - 1 := by
  rw [Int32.toInt_toInt64]
  match z, h with
  | 0, _ => decide
  | z + 1, h =>
    rw [nI_pred, nI_toInt (by omega)]
    omega
/-- the row after a load of i leaves -/
def loadS (s nu : List Int32) (k : Nat) : Nat → List Int32
  | 0 => s
  | i + 1 => (loadS s nu k i).set (2 + 8 * i + 2) (nu.getD (40 * k + i) 0 &&& 255)
theorem load_l (s nu : List Int32) (k : Nat) : ∀ i, (loadS s nu k i).length = s.length
  | 0 => rfl
  | i + 1 => by rw [loadS, List.length_set]; exact load_l s nu k i
theorem load_D (s nu : List Int32) (k : Nat) {j : Nat} : ∀ i, (∀ h, h < i → j ≠ 2 + 8 * h + 2) → (loadS s nu k i).getD j 0 = s.getD j 0
  | 0, _ => rfl
  | i + 1, h => by
    rw [loadS, gD_ne (fun e => h i (by omega) e.symm)]
    exact load_D s nu k i (fun h' hh' => h h' (by omega))
theorem inn_255 (x : Int32) : inn (x &&& 255) 8 := by
  intro i h1 h2
  rw [b_and, b_255, decide_eq_false (by omega), Bool.and_false]
theorem load_SI {s nu : List Int32} {n k : Nat} (I : SI s n) (hl : s.length = 90) (hn : n ≤ 8) : ∀ i, i ≤ n → SI (loadS s nu k i) n
  | 0, _ => I
  | i + 1, h => SI_leave (load_SI I hl hn i (by omega)) ((load_l s nu k i).trans hl) (by omega) (inn_255 _)
section MM
variable {X : List Int32} {w : ab_W} {s : List Int32} {n : Nat} {st ks : List Int32} {kp : Bool} {tp : List Int32} {tn : Nat} {bo so nu : List Int32}
set_option maxRecDepth 100000 in
set_option maxHeartbeats 4000000 in
theorem m_wrong_b (R : MW w s n st ks kp tp tn bo so nu) (a : Int32) (ha : inN a 4 = false) : ab_Q X kX6_wrong [.ref 54, .int a] w (fun v w1 => v = some (.int (-1000001)) ∧ w1 = w) := by
  have M := R.ms
  have R0 := R
  obtain ⟨oth, nz, mv, fr, to, vl, wr, a54, a55, a56, a57, a58, a59, a60, a61, a62, a63, a64, l, h0, hn, ht⟩ := R
  show ab_H X kX6_wrong 0 [some (.ref 54), some (.int a)] [] w _
  refine h_s rfl ?_
  refine h_c rfl (m_isOne a) ?_
  refine h_n (st2 := [_]) rfl ?_
  refine hz_ne rfl rfl (fun h4 => absurd h4 (by rw [ha]; decide)) (fun h4 => ?_)
  iterate 2 refine h_s rfl ?_
  exact h_ri rfl rfl ⟨rfl, rfl⟩
set_option maxRecDepth 100000 in
set_option maxHeartbeats 4000000 in
theorem m_wrong_m (R : MW w s n st ks kp tp tn bo so nu) (k : Nat) (hk : k < 4) (hb : bo.getD k 0 = 0) : ab_Q X kX6_wrong [.ref 54, .int (nI k)] w (fun v w1 => v = some (.int (-1000006)) ∧ w1 = w) := by
  have M := R.ms
  have R0 := R
  obtain ⟨oth, nz, mv, fr, to, vl, wr, a54, a55, a56, a57, a58, a59, a60, a61, a62, a63, a64, l, h0, hn, ht⟩ := R
  show ab_H X kX6_wrong 0 [some (.ref 54), some (.int (nI k))] [] w _
  refine h_s rfl ?_
  refine h_c rfl (m_isOne _) ?_
  refine h_t (show z01 (inN (nI k) 4) = 1 by rw [inN_n (by omega) hk]; rfl) ?_
  refine h_n (st2 := [_]) rfl ?_
  iterate 2 refine h_s rfl ?_
  refine h_gf rfl rfl rfl a54 rfl ?_
  refine h_s rfl ?_
  refine h_ia k rfl a61 (by omega) rfl (by omega) ?_
  refine h1_ne rfl rfl (fun h18 => absurd h18 (fun q => q hb)) (fun h18 => ?_)
  iterate 2 refine h_s rfl ?_
  exact h_ri rfl rfl ⟨rfl, rfl⟩
set_option maxRecDepth 100000 in
set_option maxHeartbeats 4000000 in
theorem m_wrong_k (R : MW w s n st ks kp tp tn bo so nu) (k : Nat) (hk : k < 4) (hb : ¬ bo.getD k 0 = 0) : ab_Q X kX6_wrong [.ref 54, .int (nI k)] w (fun v w1 => v = some (.int 0) ∧ w1 = w) := by
  have M := R.ms
  have R0 := R
  obtain ⟨oth, nz, mv, fr, to, vl, wr, a54, a55, a56, a57, a58, a59, a60, a61, a62, a63, a64, l, h0, hn, ht⟩ := R
  show ab_H X kX6_wrong 0 [some (.ref 54), some (.int (nI k))] [] w _
  refine h_s rfl ?_
  refine h_c rfl (m_isOne _) ?_
  refine h_t (show z01 (inN (nI k) 4) = 1 by rw [inN_n (by omega) hk]; rfl) ?_
  refine h_n (st2 := [_]) rfl ?_
  iterate 2 refine h_s rfl ?_
  refine h_gf rfl rfl rfl a54 rfl ?_
  refine h_s rfl ?_
  refine h_ia k rfl a61 (by omega) rfl (by omega) ?_
  refine h1_ne rfl rfl (fun h18 => ?_) (fun h18 => absurd h18 (hb))
  refine h_k (y := 0) rfl rfl ?_
  exact h_ri rfl rfl ⟨rfl, rfl⟩
set_option maxRecDepth 100000 in
set_option maxHeartbeats 4000000 in
theorem m_narrowed (b v : Int32) : ab_M X kX6_narrowed [.int b, .int v] w (some (.int (narI b v))) w := by
  show ab_G X kX6_narrowed 0 [some (.int b), some (.int v)] [] w _ _
  refine ab_s rfl ?_
  refine ab_k (y := 8) rfl rfl ?_
  refine j2_ne rfl rfl (fun h3 => ?_) (fun h3 => ?_)
  · refine ab_s rfl ?_
    refine ab_k (y := 16) rfl rfl ?_
    refine j2_ne rfl rfl (fun h14 => ?_) (fun h14 => ?_)
    · refine ab_s rfl ?_
      exact ab_ri rfl (by unfold narI; simp [h3, h14])
    · iterate 3 refine ab_s rfl ?_
      exact ab_ri rfl (by unfold narI; simp [h3, h14])
  · iterate 3 refine ab_s rfl ?_
    exact ab_ri rfl (by unfold narI; simp [h3])
set_option maxRecDepth 100000 in
set_option maxHeartbeats 4000000 in
theorem m_write_b (R : MW w s n st ks kp tp tn bo so nu) (a : Int32) (i v : Int32) (ha : inN a 4 = false) : ab_Q X kX6_write [.ref 54, .int a, .int i, .int v] w (MP w (-1000001) s n (bump st 0) ks kp tp tn bo so nu) := by
  have M := R.ms
  have R0 := R
  obtain ⟨oth, nz, mv, fr, to, vl, wr, a54, a55, a56, a57, a58, a59, a60, a61, a62, a63, a64, l, h0, hn, ht⟩ := R
  show ab_H X kX6_write 0 [some (.ref 54), some (.int a), some (.int i), some (.int v), none] [] w _
  iterate 2 refine h_s rfl ?_
  refine hq_v rfl rfl rfl a54 rfl rfl (m_wrong_b R0 a ha) (fun v0 w0 q0 => ?_)
  obtain ⟨rfl, rfl⟩ := q0
  refine h_n (st2 := [_]) rfl ?_
  iterate 5 refine h_s rfl ?_
  refine hq_v rfl rfl rfl a54 rfl rfl (m_finds R0 0 (by omega) _ (by decide)) (fun v1 w1 q1 => ?_)
  obtain ⟨rfl, q2, q3⟩ := q1
  refine h_n (st2 := [_]) rfl ?_
  exact h_ri rfl rfl ⟨rfl, q2, q3⟩
set_option maxRecDepth 100000 in
set_option maxHeartbeats 4000000 in
theorem m_write_m (R : MW w s n st ks kp tp tn bo so nu) (k : Nat) (i v : Int32) (hk : k < 4) (hb : bo.getD k 0 = 0) : ab_Q X kX6_write [.ref 54, .int (nI k), .int i, .int v] w (MP w (-1000006) s n (bump st 5) ks kp tp tn bo so nu) := by
  have M := R.ms
  have R0 := R
  obtain ⟨oth, nz, mv, fr, to, vl, wr, a54, a55, a56, a57, a58, a59, a60, a61, a62, a63, a64, l, h0, hn, ht⟩ := R
  show ab_H X kX6_write 0 [some (.ref 54), some (.int (nI k)), some (.int i), some (.int v), none] [] w _
  iterate 2 refine h_s rfl ?_
  refine hq_v rfl rfl rfl a54 rfl rfl (m_wrong_m R0 k hk hb) (fun v0 w0 q0 => ?_)
  obtain ⟨rfl, rfl⟩ := q0
  refine h_n (st2 := [_]) rfl ?_
  iterate 5 refine h_s rfl ?_
  refine hq_v rfl rfl rfl a54 rfl rfl (m_finds R0 5 (by omega) _ (by decide)) (fun v1 w1 q1 => ?_)
  obtain ⟨rfl, q2, q3⟩ := q1
  refine h_n (st2 := [_]) rfl ?_
  exact h_ri rfl rfl ⟨rfl, q2, q3⟩
set_option maxRecDepth 100000 in
set_option maxHeartbeats 4000000 in
theorem m_load_b (R : MW w s n st ks kp tp tn bo so nu) (a : Int32)  (ha : inN a 4 = false) : ab_Q X kX6_load [.ref 54, .int a] w (MP w (-1000001) s n (bump st 0) ks kp tp tn bo so nu) := by
  have M := R.ms
  have R0 := R
  obtain ⟨oth, nz, mv, fr, to, vl, wr, a54, a55, a56, a57, a58, a59, a60, a61, a62, a63, a64, l, h0, hn, ht⟩ := R
  show ab_H X kX6_load 0 [some (.ref 54), some (.int a), none, none] [] w _
  iterate 2 refine h_s rfl ?_
  refine hq_v rfl rfl rfl a54 rfl rfl (m_wrong_b R0 a ha) (fun v0 w0 q0 => ?_)
  obtain ⟨rfl, rfl⟩ := q0
  refine h_n (st2 := [_]) rfl ?_
  iterate 5 refine h_s rfl ?_
  refine hq_v rfl rfl rfl a54 rfl rfl (m_finds R0 0 (by omega) _ (by decide)) (fun v1 w1 q1 => ?_)
  obtain ⟨rfl, q2, q3⟩ := q1
  refine h_n (st2 := [_]) rfl ?_
  exact h_ri rfl rfl ⟨rfl, q2, q3⟩
set_option maxRecDepth 100000 in
set_option maxHeartbeats 4000000 in
theorem m_load_m (R : MW w s n st ks kp tp tn bo so nu) (k : Nat)  (hk : k < 4) (hb : bo.getD k 0 = 0) : ab_Q X kX6_load [.ref 54, .int (nI k)] w (MP w (-1000006) s n (bump st 5) ks kp tp tn bo so nu) := by
  have M := R.ms
  have R0 := R
  obtain ⟨oth, nz, mv, fr, to, vl, wr, a54, a55, a56, a57, a58, a59, a60, a61, a62, a63, a64, l, h0, hn, ht⟩ := R
  show ab_H X kX6_load 0 [some (.ref 54), some (.int (nI k)), none, none] [] w _
  iterate 2 refine h_s rfl ?_
  refine hq_v rfl rfl rfl a54 rfl rfl (m_wrong_m R0 k hk hb) (fun v0 w0 q0 => ?_)
  obtain ⟨rfl, rfl⟩ := q0
  refine h_n (st2 := [_]) rfl ?_
  iterate 5 refine h_s rfl ?_
  refine hq_v rfl rfl rfl a54 rfl rfl (m_finds R0 5 (by omega) _ (by decide)) (fun v1 w1 q1 => ?_)
  obtain ⟨rfl, q2, q3⟩ := q1
  refine h_n (st2 := [_]) rfl ?_
  exact h_ri rfl rfl ⟨rfl, q2, q3⟩
set_option maxRecDepth 100000 in
set_option maxHeartbeats 4000000 in
theorem m_judge_b (R : MW w s n st ks kp tp tn bo so nu) (a : Int32) (f c : Int32) (ha : inN a 4 = false) : ab_Q X kX6_judge [.ref 54, .int a, .int f, .int c] w (MP w (-1000001) s n (bump st 0) ks kp tp tn bo so nu) := by
  have M := R.ms
  have R0 := R
  obtain ⟨oth, nz, mv, fr, to, vl, wr, a54, a55, a56, a57, a58, a59, a60, a61, a62, a63, a64, l, h0, hn, ht⟩ := R
  show ab_H X kX6_judge 0 [some (.ref 54), some (.int a), some (.int f), some (.int c), none, none, none, none, none] [] w _
  iterate 2 refine h_s rfl ?_
  refine hq_v rfl rfl rfl a54 rfl rfl (m_wrong_b R0 a ha) (fun v0 w0 q0 => ?_)
  obtain ⟨rfl, rfl⟩ := q0
  refine h_n (st2 := [_]) rfl ?_
  iterate 5 refine h_s rfl ?_
  refine hq_v rfl rfl rfl a54 rfl rfl (m_finds R0 0 (by omega) _ (by decide)) (fun v1 w1 q1 => ?_)
  obtain ⟨rfl, q2, q3⟩ := q1
  refine h_n (st2 := [_]) rfl ?_
  exact h_ri rfl rfl ⟨rfl, q2, q3⟩
set_option maxRecDepth 100000 in
set_option maxHeartbeats 4000000 in
theorem m_judge_m (R : MW w s n st ks kp tp tn bo so nu) (k : Nat) (f c : Int32) (hk : k < 4) (hb : bo.getD k 0 = 0) : ab_Q X kX6_judge [.ref 54, .int (nI k), .int f, .int c] w (MP w (-1000006) s n (bump st 5) ks kp tp tn bo so nu) := by
  have M := R.ms
  have R0 := R
  obtain ⟨oth, nz, mv, fr, to, vl, wr, a54, a55, a56, a57, a58, a59, a60, a61, a62, a63, a64, l, h0, hn, ht⟩ := R
  show ab_H X kX6_judge 0 [some (.ref 54), some (.int (nI k)), some (.int f), some (.int c), none, none, none, none, none] [] w _
  iterate 2 refine h_s rfl ?_
  refine hq_v rfl rfl rfl a54 rfl rfl (m_wrong_m R0 k hk hb) (fun v0 w0 q0 => ?_)
  obtain ⟨rfl, rfl⟩ := q0
  refine h_n (st2 := [_]) rfl ?_
  iterate 5 refine h_s rfl ?_
  refine hq_v rfl rfl rfl a54 rfl rfl (m_finds R0 5 (by omega) _ (by decide)) (fun v1 w1 q1 => ?_)
  obtain ⟨rfl, q2, q3⟩ := q1
  refine h_n (st2 := [_]) rfl ?_
  exact h_ri rfl rfl ⟨rfl, q2, q3⟩
set_option maxRecDepth 100000 in
set_option maxHeartbeats 4000000 in
theorem m_write_i (R : MW w s n st ks kp tp tn bo so nu) (k z : Nat) (hk : k < 4) (hb : ¬ bo.getD k 0 = 0) (hz : so.getD k 0 = nI z) (hz40 : z ≤ 40) (i v : Int32) (hi : inN i z = false) : ab_Q X kX6_write [.ref 54, .int (nI k), .int i, .int v] w (MP w (-1000001) s n (bump st 0) ks kp tp tn bo so nu) := by
  have M := R.ms
  have R0 := R
  obtain ⟨oth, nz, mv, fr, to, vl, wr, a54, a55, a56, a57, a58, a59, a60, a61, a62, a63, a64, l, h0, hn, ht⟩ := R
  show ab_H X kX6_write 0 [some (.ref 54), some (.int (nI k)), some (.int i), some (.int v), none] [] w _
  iterate 2 refine h_s rfl ?_
  refine hq_v rfl rfl rfl a54 rfl rfl (m_wrong_k R0 k hk hb) (fun v0 w0 q0 => ?_)
  obtain ⟨rfl, rfl⟩ := q0
  refine h_n (st2 := [_]) rfl ?_
  iterate 7 refine h_s rfl ?_
  refine h_gf rfl rfl rfl a54 rfl ?_
  refine h_s rfl ?_
  refine h_ia k rfl a62 (by omega) rfl (by omega) ?_
  refine h_t hz ?_
  refine h_k (y := 1) rfl rfl ?_
  iterate 2 refine h_s rfl ?_
  refine h_c rfl (m_inZ (m := z) i rfl (nsubN (by omega))) ?_
  refine h_n (st2 := [_]) rfl ?_
  refine hz_ne rfl rfl (fun h34 => absurd h34 (by rw [hi]; decide)) (fun h34 => ?_)
  iterate 2 refine h_s rfl ?_
  refine hq_v rfl rfl rfl a54 rfl rfl (m_finds R0 0 (by omega) _ (by decide)) (fun v1 w1 q1 => ?_)
  obtain ⟨rfl, q2, q3⟩ := q1
  refine h_n (st2 := [_]) rfl ?_
  exact h_ri rfl rfl ⟨rfl, q2, q3⟩
set_option maxRecDepth 100000 in
set_option maxHeartbeats 4000000 in
theorem m_write_k (R : MW w s n st ks kp tp tn bo so nu) (k z : Nat) (hk : k < 4) (hb : ¬ bo.getD k 0 = 0) (hz : so.getD k 0 = nI z) (hz40 : z ≤ 40) (i : Nat) (v : Int32) (hi : i < z) : ab_Q X kX6_write [.ref 54, .int (nI k), .int (nI i), .int v] w (MP w 1 s n st ks kp tp tn bo so (nu.set (40 * k + i) (narI (bo.getD k 0) v))) := by
  have M := R.ms
  have R0 := R
  obtain ⟨oth, nz, mv, fr, to, vl, wr, a54, a55, a56, a57, a58, a59, a60, a61, a62, a63, a64, l, h0, hn, ht⟩ := R
  show ab_H X kX6_write 0 [some (.ref 54), some (.int (nI k)), some (.int (nI i)), some (.int v), none] [] w _
  iterate 2 refine h_s rfl ?_
  refine hq_v rfl rfl rfl a54 rfl rfl (m_wrong_k R0 k hk hb) (fun v0 w0 q0 => ?_)
  obtain ⟨rfl, rfl⟩ := q0
  refine h_n (st2 := [_]) rfl ?_
  iterate 7 refine h_s rfl ?_
  refine h_gf rfl rfl rfl a54 rfl ?_
  refine h_s rfl ?_
  refine h_ia k rfl a62 (by omega) rfl (by omega) ?_
  refine h_t hz ?_
  refine h_k (y := 1) rfl rfl ?_
  iterate 2 refine h_s rfl ?_
  refine h_c rfl (m_inZ (m := z) (nI i) rfl (nsubN (by omega))) ?_
  refine h_n (st2 := [_]) rfl ?_
  refine hz_ne rfl rfl (fun h34 => ?_) (fun h34 => absurd h34 (by rw [inN_n (by omega) hi]; decide))
  refine h_s rfl ?_
  refine h_gf rfl rfl rfl a54 rfl ?_
  refine h_k (y := 40) rfl rfl ?_
  refine h_s rfl ?_
  refine h_s rfl ?_
  refine h_t (pk_mul 40 k) ?_
  refine h_s rfl ?_
  refine h_s rfl ?_
  refine h_t (nI_add (40 * k) i) ?_
  refine h_s rfl ?_
  refine h_gf rfl rfl rfl a54 rfl ?_
  refine h_s rfl ?_
  refine h_ia k rfl a61 (by omega) rfl (by omega) ?_
  refine h_s rfl ?_
  refine h_c rfl (m_narrowed _ v) ?_
  refine h_n (st2 := [_, _, _]) rfl ?_
  refine h_is (40 * k + i) rfl a63 (by omega) rfl (by omega) (fun w1 e1 f1 => ?_)
  refine h_k (y := 1) rfl rfl ?_
  exact h_ri rfl rfl ⟨rfl, R0.sh ((f1 61 (by decide)).trans a61) ((f1 62 (by decide)).trans a62) e1 ((f1 64 (by decide)).trans a64) l.2.2.2.2.2.2.1 l.2.2.2.2.2.2.2.1 ((List.length_set ..).trans l.2.2.2.2.2.2.2.2.1) l.2.2.2.2.2.2.2.2.2 (fun i hi => f1 i (by omega)), fun i hi => f1 i (by omega)⟩
set_option maxRecDepth 100000 in
set_option maxHeartbeats 4000000 in
theorem m_load_k (R : MW w s n st ks kp tp tn bo so nu) (k z : Nat) (hk : k < 4) (hb : ¬ bo.getD k 0 = 0) (hz : so.getD k 0 = nI z) (hz40 : z ≤ 40) : ab_Q X kX6_load [.ref 54, .int (nI k)] w (MP w (nI (min z n)) (loadS s nu k (min z n)) n st ks kp tp tn bo so nu) := by
  have M := R.ms
  have R0 := R
  obtain ⟨oth, nz, mv, fr, to, vl, wr, a54, a55, a56, a57, a58, a59, a60, a61, a62, a63, a64, l, h0, hn, ht⟩ := R
  show ab_H X kX6_load 0 [some (.ref 54), some (.int (nI k)), none, none] [] w _
  iterate 2 refine h_s rfl ?_
  refine hq_v rfl rfl rfl a54 rfl rfl (m_wrong_k R0 k hk hb) (fun v0 w0 q0 => ?_)
  obtain ⟨rfl, rfl⟩ := q0
  refine h_n (st2 := [_]) rfl ?_
  iterate 3 refine h_s rfl ?_
  refine h_k (y := 0) rfl rfl ?_
  refine h_s rfl ?_
  refine h_loop0 (min z n) (fun i ls w1 => (∀ j, j ≠ 55 → w1[j]? = w0[j]?) ∧ w1[55]? = some (.inr (loadS s nu k i)) ∧ ls = [some (.ref 54), some (.int (nI k)), some (.int 0), some (.int (nI i))]) ⟨fun _ _ => rfl, a55, rfl⟩ (fun i ls w1 hi hJ ih => ?_) (fun ls w1 hJ => ?_)
  · obtain ⟨F, b55, rfl⟩ := hJ
    have b54 := (F 54 (by decide)).trans a54
    have b62 := (F 62 (by decide)).trans a62
    have b63 := (F 63 (by decide)).trans a63
    have hi1 : i < z := Nat.lt_of_lt_of_le hi (Nat.min_le_left ..)
    have hi2 : i < n := Nat.lt_of_lt_of_le hi (Nat.min_le_right ..)
    have gl : (loadS s nu k i).length = 90 := (load_l ..).trans l.1
    have g0 : (loadS s nu k i).getD 0 0 = nI n := (load_D _ _ _ _ (fun h _ => by omega)).trans h0
    iterate 2 refine h_s rfl ?_
    refine h_gf rfl rfl rfl b54 rfl ?_
    refine h_s rfl ?_
    refine h_ia k rfl b62 (by omega) rfl (by omega) ?_
    refine h_t hz ?_
    refine h2_ge rfl rfl (fun h25 => absurd h25 (nI_ge hi1 (by omega))) (fun h25 => ?_)
    iterate 2 refine h_s rfl ?_
    refine h_gf rfl rfl rfl b54 rfl ?_
    refine h_k (y := 0) rfl rfl ?_
    refine h_ia 0 rfl b55 (by omega) rfl (by omega) ?_
    refine h_t g0 ?_
    refine h2_ge rfl rfl (fun h35 => absurd h35 (nI_ge hi2 (by omega))) (fun h35 => ?_)
    refine h_s rfl ?_
    refine h_gf rfl rfl rfl b54 rfl ?_
    refine h_s rfl ?_
    refine h_k (y := 2) rfl rfl ?_
    refine h_c rfl (m_at i 2 rfl rfl) ?_
    refine h_n (st2 := [_, _]) rfl ?_
    refine h_s rfl ?_
    refine h_gf rfl rfl rfl b54 rfl ?_
    refine h_k (y := 40) rfl rfl ?_
    refine h_s rfl ?_
    refine h_s rfl ?_
    refine h_t (pk_mul 40 k) ?_
    refine h_s rfl ?_
    refine h_s rfl ?_
    refine h_t (nI_add (40 * k) i) ?_
    refine h_ia (40 * k + i) rfl b63 (by omega) rfl (by omega) ?_
    refine h_k (y := 255) rfl rfl ?_
    refine h_s rfl ?_
    refine h_is (2 + 8 * i + 2) rfl b55 (by omega) rfl (by omega) (fun w2 e2 f2 => ?_)
    refine h_ii rfl rfl rfl ?_
    refine h_s rfl ?_
    exact ih _ _ ⟨fun j hj => (f2 j hj).trans (F j hj), e2, rfl⟩
  · obtain ⟨F, b55, rfl⟩ := hJ
    have b54 := (F 54 (by decide)).trans a54
    have b62 := (F 62 (by decide)).trans a62
    have b63 := (F 63 (by decide)).trans a63
    obtain ⟨m, hm⟩ : ∃ m, min z n = m := ⟨_, rfl⟩
    rw [hm] at b55 ⊢
    have gl : (loadS s nu k m).length = 90 := (load_l ..).trans l.1
    have g0 : (loadS s nu k m).getD 0 0 = nI n := (load_D _ _ _ _ (fun h _ => by omega)).trans h0
    have fin := R0.s55 b55 gl g0 hn F
    by_cases hzn : z ≤ n
    · have e : m = z := by omega
      iterate 2 refine h_s rfl ?_
      refine h_gf rfl rfl rfl b54 rfl ?_
      refine h_s rfl ?_
      refine h_ia k rfl b62 (by omega) rfl (by omega) ?_
      refine h_t hz ?_
      refine h2_ge rfl rfl (fun h25 => ?_) (fun h25 => absurd (nI_le (by omega) (by omega)) h25)
      refine h_s rfl ?_
      exact h_ri rfl rfl ⟨rfl, fin, fun i hi => F i (by omega)⟩
    · have e : m = n := by omega
      iterate 2 refine h_s rfl ?_
      refine h_gf rfl rfl rfl b54 rfl ?_
      refine h_s rfl ?_
      refine h_ia k rfl b62 (by omega) rfl (by omega) ?_
      refine h_t hz ?_
      refine h2_ge rfl rfl (fun h25 => absurd h25 (nI_ge (by omega) (by omega))) (fun h25 => ?_)
      iterate 2 refine h_s rfl ?_
      refine h_gf rfl rfl rfl b54 rfl ?_
      refine h_k (y := 0) rfl rfl ?_
      refine h_ia 0 rfl b55 (by omega) rfl (by omega) ?_
      refine h_t g0 ?_
      refine h2_ge rfl rfl (fun h35 => ?_) (fun h35 => absurd (nI_le (by omega) (by omega)) h35)
      refine h_s rfl ?_
      exact h_ri rfl rfl ⟨rfl, fin, fun i hi => F i (by omega)⟩
end MM
