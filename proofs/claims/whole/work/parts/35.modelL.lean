/-! THE REFERENCE: sheets -/
def bitOK (b : Int32) : Bool := decide (b = 0) || decide (b = 8) || decide (b = 16) || decide (b = 32)
def zeroN (nu : List Int32) (k : Nat) : Nat → List Int32
  | 0 => nu
  | i + 1 => (zeroN nu k i).set (40 * k + i) 0
theorem zero_l (nu : List Int32) (k : Nat) : ∀ i, (zeroN nu k i).length = nu.length
  | 0 => rfl
  | i + 1 => by rw [zeroN, List.length_set]; exact zero_l nu k i
def narI (b v : Int32) : Int32 := if b = 8 then v.toInt8.toInt32 else if b = 16 then v.toInt16.toInt32 else v
theorem pos_40 {c : Int32} (h : 40 < c) : 0 ≤ c := by
  rw [lt_iff] at h
  rw [le_iff]
  have e1 : (40 : Int32).toInt = 40 := rfl
  have e2 : (0 : Int32).toInt = 0 := rfl
  omega
theorem not_le40 {c : Int32} (h : 40 < c) : ¬ c ≤ 40 := by
  rw [lt_iff] at h
  rw [le_iff]
  omega
section ML
variable {X : List Int32} {w : ab_W} {s : List Int32} {n : Nat} {st ks : List Int32} {kp : Bool} {tp : List Int32} {tn : Nat} {bo so nu : List Int32}
theorem MW.sh (R : MW w s n st ks kp tp tn bo so nu) {w1 : ab_W} {b1 s1 u1 m1 : List Int32} (h1 : w1[61]? = some (.inr b1)) (h2 : w1[62]? = some (.inr s1)) (h3 : w1[63]? = some (.inr u1)) (h4 : w1[64]? = some (.inr m1)) (l1 : b1.length = 4) (l2 : s1.length = 4) (l3 : u1.length = 160) (l4 : m1.length = 40) (hf : ∀ i, i < 61 → w1[i]? = w[i]?) : MW w1 s n st ks kp tp tn b1 s1 u1 := by
  obtain ⟨oth, nz, mv, fr, to, vl, wr, a54, a55, a56, a57, a58, a59, a60, a61, a62, a63, a64, l, h0, hn, ht⟩ := R
  exact ⟨oth, nz, m1, fr, to, vl, wr, by rw [hf _ (by decide)]; exact a54, by rw [hf _ (by decide)]; exact a55, by rw [hf _ (by decide)]; exact a56, by rw [hf _ (by decide)]; exact a57, by rw [hf _ (by decide)]; exact a58, by rw [hf _ (by decide)]; exact a59, by rw [hf _ (by decide)]; exact a60, h1, h2, h3, h4, ⟨l.1, l.2.1, l.2.2.1, l.2.2.2.1, l.2.2.2.2.1, l.2.2.2.2.2.1, l1, l2, l3, l4⟩, h0, hn, ht⟩
set_option maxRecDepth 100000 in
set_option maxHeartbeats 4000000 in
theorem m_isOne (x : Int32) : ab_M X kX6_isOne [.int x] w (some (.int (z01 (inN x 4)))) w := by
  show ab_G X kX6_isOne 0 [some (.int x)] [] w _ _
  iterate 4 refine ab_s rfl ?_
  refine ab_c rfl (m_inZ (m := 4) _ rfl rfl) ?_
  refine ab_n (st2 := [_]) rfl ?_
  exact ab_rz rfl rfl rfl
set_option maxRecDepth 100000 in
set_option maxHeartbeats 4000000 in
theorem m_sheet_b (R : MW w s n st ks kp tp tn bo so nu) (a b c : Int32) (hb : (inN a 4 && bitOK b) = false)  : ab_Q X kX6_sheet [.ref 54, .int a, .int b, .int c] w (MP w (-1000001) s n (bump st 0) ks kp tp tn bo so nu) := by
  have M := R.ms
  have R0 := R
  obtain ⟨oth, nz, mv, fr, to, vl, wr, a54, a55, a56, a57, a58, a59, a60, a61, a62, a63, a64, l, h0, hn, ht⟩ := R
  show ab_H X kX6_sheet 0 [some (.ref 54), some (.int a), some (.int b), some (.int c), none] [] w _
  refine h_s rfl ?_
  refine h_c rfl (m_isOne _) ?_
  refine h_n (st2 := [_]) rfl ?_
  refine hz_eq rfl rfl (fun h4 => ?_) (fun h4 => ?_)
  · iterate 2 refine h_s rfl ?_
    refine hq_v rfl rfl rfl a54 rfl rfl (m_finds R0 0 (by omega) _ (by decide)) (fun v1 w1 q1 => ?_)
    obtain ⟨rfl, q2, q3⟩ := q1
    refine h_n (st2 := [_]) rfl ?_
    exact h_ri rfl rfl ⟨rfl, q2, q3⟩
  · refine h_s rfl ?_
    refine h1_eq rfl rfl (fun h8 => ?_) (fun h8 => ?_)
    · exact absurd hb (by simp [bitOK, h4, h8])
    · refine h_s rfl ?_
      refine h_k (y := 8) rfl rfl ?_
      refine h2_eq rfl rfl (fun h14 => ?_) (fun h14 => ?_)
      · exact absurd hb (by simp [bitOK, h4, h8, h14])
      · refine h_s rfl ?_
        refine h_k (y := 16) rfl rfl ?_
        refine h2_eq rfl rfl (fun h20 => ?_) (fun h20 => ?_)
        · exact absurd hb (by simp [bitOK, h4, h8, h14, h20])
        · refine h_s rfl ?_
          refine h_k (y := 32) rfl rfl ?_
          refine h2_eq rfl rfl (fun h26 => ?_) (fun h26 => ?_)
          · exact absurd hb (by simp [bitOK, h4, h8, h14, h20, h26])
          · iterate 2 refine h_s rfl ?_
            refine hq_v rfl rfl rfl a54 rfl rfl (m_finds R0 0 (by omega) _ (by decide)) (fun v1 w1 q1 => ?_)
            obtain ⟨rfl, q2, q3⟩ := q1
            refine h_n (st2 := [_]) rfl ?_
            exact h_ri rfl rfl ⟨rfl, q2, q3⟩
set_option maxRecDepth 100000 in
set_option maxHeartbeats 4000000 in
theorem m_sh36s (R : MW w s n st ks kp tp tn bo so nu) (k : Nat) (b c : Int32) (hk : k < 4) (hc : c < 0) : ab_H X kX6_sheet 36 [some (.ref 54), some (.int (nI k)), some (.int b), some (.int c), none] [] w (MP w (-1000007) s n (bump st 6) ks kp tp tn bo so nu) := by
  have M := R.ms
  have R0 := R
  obtain ⟨oth, nz, mv, fr, to, vl, wr, a54, a55, a56, a57, a58, a59, a60, a61, a62, a63, a64, l, h0, hn, ht⟩ := R
  refine h_s rfl ?_
  refine h1_ge rfl rfl (fun h37 => absurd hc (neg_n h37)) (fun h37 => ?_)
  iterate 2 refine h_s rfl ?_
  refine hq_v rfl rfl rfl a54 rfl rfl (m_finds R0 6 (by omega) _ (by decide)) (fun v1 w1 q1 => ?_)
  obtain ⟨rfl, q2, q3⟩ := q1
  refine h_n (st2 := [_]) rfl ?_
  exact h_ri rfl rfl ⟨rfl, q2, q3⟩
set_option maxRecDepth 100000 in
set_option maxHeartbeats 4000000 in
theorem m_sh36m (R : MW w s n st ks kp tp tn bo so nu) (k : Nat) (b c : Int32) (hk : k < 4) (hc : 40 < c) : ab_H X kX6_sheet 36 [some (.ref 54), some (.int (nI k)), some (.int b), some (.int c), none] [] w (MP w (-1000001) s n (bump st 0) ks kp tp tn bo so nu) := by
  have M := R.ms
  have R0 := R
  obtain ⟨oth, nz, mv, fr, to, vl, wr, a54, a55, a56, a57, a58, a59, a60, a61, a62, a63, a64, l, h0, hn, ht⟩ := R
  refine h_s rfl ?_
  refine h1_ge rfl rfl (fun h37 => ?_) (fun h37 => absurd (pos_40 hc) h37)
  refine h_s rfl ?_
  refine h_k (y := 40) rfl rfl ?_
  refine h2_le rfl rfl (fun h51 => absurd h51 (not_le40 hc)) (fun h51 => ?_)
  iterate 2 refine h_s rfl ?_
  refine hq_v rfl rfl rfl a54 rfl rfl (m_finds R0 0 (by omega) _ (by decide)) (fun v1 w1 q1 => ?_)
  obtain ⟨rfl, q2, q3⟩ := q1
  refine h_n (st2 := [_]) rfl ?_
  exact h_ri rfl rfl ⟨rfl, q2, q3⟩
set_option maxRecDepth 100000 in
set_option maxHeartbeats 4000000 in
theorem m_sh36k (R : MW w s n st ks kp tp tn bo so nu) (k m : Nat) (b : Int32) (hk : k < 4) (hm : m ≤ 40) : ab_H X kX6_sheet 36 [some (.ref 54), some (.int (nI k)), some (.int b), some (.int (nI m)), none] [] w (MP w (if b = 0 then 0 else nI m) s n st ks kp tp tn (bo.set k b) (so.set k (if b = 0 then 0 else nI m)) (zeroN nu k 40)) := by
  have M := R.ms
  have R0 := R
  obtain ⟨oth, nz, mv, fr, to, vl, wr, a54, a55, a56, a57, a58, a59, a60, a61, a62, a63, a64, l, h0, hn, ht⟩ := R
  have go : ∀ w2 : ab_W, (∀ i, i < 61 → w2[i]? = w[i]?) → w2[54]? = some (.inl (6, mObj kp tn fr to vl wr)) → w2[61]? = some (.inr (bo.set k b)) → w2[62]? = some (.inr (so.set k (if b = 0 then 0 else nI m))) → w2[63]? = some (.inr nu) → w2[64]? = some (.inr mv) → ab_H X kX6_sheet 86 [some (.ref 54), some (.int (nI k)), some (.int b), some (.int (nI m)), some (.int 0)] [] w2 (MP w (if b = 0 then 0 else nI m) s n st ks kp tp tn (bo.set k b) (so.set k (if b = 0 then 0 else nI m)) (zeroN nu k 40)) := by
    intro w2 F b54 b61 b62 b63 b64
    refine h_loop0 40 (fun i ls w3 => (∀ j, j ≠ 63 → w3[j]? = w2[j]?) ∧ w3[63]? = some (.inr (zeroN nu k i)) ∧ ls = [some (.ref 54), some (.int (nI k)), some (.int b), some (.int (nI m)), some (.int (nI i))]) ⟨fun _ _ => rfl, b63, rfl⟩ (fun i ls w3 hi hJ ih => ?_) (fun ls w3 hJ => ?_)
    · obtain ⟨F3, c63, rfl⟩ := hJ
      have c54 := (F3 54 (by decide)).trans b54
      have zl := (zero_l nu k i).trans l.2.2.2.2.2.2.2.2.1
      refine h_s rfl ?_
      refine h_k (y := 40) rfl rfl ?_
      refine h2_ge rfl rfl (fun h90 => absurd h90 (nI_ge (b := 40) hi (by omega))) (fun h90 => ?_)
      refine h_s rfl ?_
      refine h_gf rfl rfl rfl c54 rfl ?_
      refine h_k (y := 40) rfl rfl ?_
      refine h_s rfl ?_
      refine h_s rfl ?_
      refine h_t (pk_mul 40 k) ?_
      refine h_s rfl ?_
      refine h_s rfl ?_
      refine h_t (nI_add (40 * k) i) ?_
      refine h_k (y := 0) rfl rfl ?_
      refine h_is (40 * k + i) rfl c63 (by omega) rfl (by omega) (fun w4 e4 f4 => ?_)
      refine h_ii rfl rfl rfl ?_
      refine h_s rfl ?_
      exact ih _ _ ⟨fun j hj => (f4 j hj).trans (F3 j hj), e4, rfl⟩
    · obtain ⟨F3, c63, rfl⟩ := hJ
      have c54 := (F3 54 (by decide)).trans b54
      have c62 := (F3 62 (by decide)).trans b62
      refine h_s rfl ?_
      refine h_k (y := 40) rfl rfl ?_
      refine h2_ge rfl rfl (fun h90 => ?_) (fun h90 => absurd (nI_le (a := 40) (b := 40) (Nat.le_refl _) (by omega)) h90)
      refine h_s rfl ?_
      refine h_gf rfl rfl rfl c54 rfl ?_
      refine h_s rfl ?_
      refine h_ia k rfl c62 (by rw [List.length_set]; omega) rfl (by rw [List.length_set]; omega) ?_
      refine h_t (gD_eq (by omega)) ?_
      exact h_ri rfl rfl ⟨rfl, R0.sh ((F3 61 (by decide)).trans b61) c62 c63 ((F3 64 (by decide)).trans b64) ((List.length_set ..).trans l.2.2.2.2.2.2.1) ((List.length_set ..).trans l.2.2.2.2.2.2.2.1) ((zero_l nu k 40).trans l.2.2.2.2.2.2.2.2.1) l.2.2.2.2.2.2.2.2.2 (fun i hi => (F3 i (by omega)).trans (F i hi)), fun i hi => (F3 i (by omega)).trans (F i (by omega))⟩
  refine h_s rfl ?_
  refine h1_ge rfl rfl (fun h37 => ?_) (fun h37 => absurd (nI_pos' (by omega)) h37)
  refine h_s rfl ?_
  refine h_k (y := 40) rfl rfl ?_
  refine h2_le rfl rfl (fun h51 => ?_) (fun h51 => absurd (nI_le (a := m) (b := 40) hm (by omega)) h51)
  refine h_s rfl ?_
  refine h_gf rfl rfl rfl a54 rfl ?_
  iterate 2 refine h_s rfl ?_
  refine h_is k rfl a61 (by omega) rfl (by omega) (fun w1 e1 f1 => ?_)
  have a54 := (f1 54 (by decide)).trans a54
  have a62 := (f1 62 (by decide)).trans a62
  have a63 := (f1 63 (by decide)).trans a63
  have a64 := (f1 64 (by decide)).trans a64
  refine h_s rfl ?_
  refine h_gf rfl rfl rfl a54 rfl ?_
  iterate 2 refine h_s rfl ?_
  refine h1_ne rfl rfl (fun h74 => ?_) (fun h74 => ?_)
  · refine h_s rfl ?_
    refine h_is k rfl a62 (by omega) rfl (by omega) (fun w2 e2 f2 => ?_)
    refine h_k (y := 0) rfl rfl ?_
    refine h_s rfl ?_
    have c1 := (f2 61 (by decide)).trans e1
    refine go w2 ?_ ((f2 54 (by decide)).trans a54) c1 ?_ ((f2 63 (by decide)).trans a63) ((f2 64 (by decide)).trans a64)
    · exact fun i hi => (f2 i (by omega)).trans (f1 i (by omega))
    · first | (rw [if_pos h74]; exact e2) | (rw [if_neg h74]; exact e2)
  · refine h_k (y := 0) rfl rfl ?_
    refine h_s rfl ?_
    refine h_is k rfl a62 (by omega) rfl (by omega) (fun w2 e2 f2 => ?_)
    refine h_k (y := 0) rfl rfl ?_
    refine h_s rfl ?_
    have c1 := (f2 61 (by decide)).trans e1
    refine go w2 ?_ ((f2 54 (by decide)).trans a54) c1 ?_ ((f2 63 (by decide)).trans a63) ((f2 64 (by decide)).trans a64)
    · exact fun i hi => (f2 i (by omega)).trans (f1 i (by omega))
    · first | (rw [if_pos h74]; exact e2) | (rw [if_neg h74]; exact e2)
set_option maxRecDepth 100000 in
set_option maxHeartbeats 4000000 in
theorem m_sheet_s (R : MW w s n st ks kp tp tn bo so nu) (k : Nat) (b c : Int32) (hk : k < 4) (hb : bitOK b = true) (hc : c < 0) : ab_Q X kX6_sheet [.ref 54, .int (nI k), .int b, .int c] w (MP w (-1000007) s n (bump st 6) ks kp tp tn bo so nu) := by
  have M := R.ms
  have R0 := R
  obtain ⟨oth, nz, mv, fr, to, vl, wr, a54, a55, a56, a57, a58, a59, a60, a61, a62, a63, a64, l, h0, hn, ht⟩ := R
  show ab_H X kX6_sheet 0 [some (.ref 54), some (.int (nI k)), some (.int b), some (.int c), none] [] w _
  refine h_s rfl ?_
  refine h_c rfl (m_isOne _) ?_
  refine h_t (show z01 (inN (nI k) 4) = 1 by rw [inN_n (by omega) hk]; rfl) ?_
  refine h_n (st2 := [_]) rfl ?_
  iterate 2 refine h_s rfl ?_
  refine h1_eq rfl rfl (fun h8 => ?_) (fun h8 => ?_)
  · exact m_sh36s R0 k b c hk hc
  · refine h_s rfl ?_
    refine h_k (y := 8) rfl rfl ?_
    refine h2_eq rfl rfl (fun h14 => ?_) (fun h14 => ?_)
    · exact m_sh36s R0 k b c hk hc
    · refine h_s rfl ?_
      refine h_k (y := 16) rfl rfl ?_
      refine h2_eq rfl rfl (fun h20 => ?_) (fun h20 => ?_)
      · exact m_sh36s R0 k b c hk hc
      · refine h_s rfl ?_
        refine h_k (y := 32) rfl rfl ?_
        refine h2_eq rfl rfl (fun h26 => ?_) (fun h26 => ?_)
        · exact m_sh36s R0 k b c hk hc
        · exact absurd hb (by simp [bitOK, h8, h14, h20, h26])
set_option maxRecDepth 100000 in
set_option maxHeartbeats 4000000 in
theorem m_sheet_m (R : MW w s n st ks kp tp tn bo so nu) (k : Nat) (b c : Int32) (hk : k < 4) (hb : bitOK b = true) (hc : 40 < c) : ab_Q X kX6_sheet [.ref 54, .int (nI k), .int b, .int c] w (MP w (-1000001) s n (bump st 0) ks kp tp tn bo so nu) := by
  have M := R.ms
  have R0 := R
  obtain ⟨oth, nz, mv, fr, to, vl, wr, a54, a55, a56, a57, a58, a59, a60, a61, a62, a63, a64, l, h0, hn, ht⟩ := R
  show ab_H X kX6_sheet 0 [some (.ref 54), some (.int (nI k)), some (.int b), some (.int c), none] [] w _
  refine h_s rfl ?_
  refine h_c rfl (m_isOne _) ?_
  refine h_t (show z01 (inN (nI k) 4) = 1 by rw [inN_n (by omega) hk]; rfl) ?_
  refine h_n (st2 := [_]) rfl ?_
  iterate 2 refine h_s rfl ?_
  refine h1_eq rfl rfl (fun h8 => ?_) (fun h8 => ?_)
  · exact m_sh36m R0 k b c hk hc
  · refine h_s rfl ?_
    refine h_k (y := 8) rfl rfl ?_
    refine h2_eq rfl rfl (fun h14 => ?_) (fun h14 => ?_)
    · exact m_sh36m R0 k b c hk hc
    · refine h_s rfl ?_
      refine h_k (y := 16) rfl rfl ?_
      refine h2_eq rfl rfl (fun h20 => ?_) (fun h20 => ?_)
      · exact m_sh36m R0 k b c hk hc
      · refine h_s rfl ?_
        refine h_k (y := 32) rfl rfl ?_
        refine h2_eq rfl rfl (fun h26 => ?_) (fun h26 => ?_)
        · exact m_sh36m R0 k b c hk hc
        · exact absurd hb (by simp [bitOK, h8, h14, h20, h26])
set_option maxRecDepth 100000 in
set_option maxHeartbeats 4000000 in
theorem m_sheet_k (R : MW w s n st ks kp tp tn bo so nu) (k m : Nat) (b : Int32) (hk : k < 4) (hb : bitOK b = true) (hm : m ≤ 40) : ab_Q X kX6_sheet [.ref 54, .int (nI k), .int b, .int (nI m)] w (MP w (if b = 0 then 0 else nI m) s n st ks kp tp tn (bo.set k b) (so.set k (if b = 0 then 0 else nI m)) (zeroN nu k 40)) := by
  have M := R.ms
  have R0 := R
  obtain ⟨oth, nz, mv, fr, to, vl, wr, a54, a55, a56, a57, a58, a59, a60, a61, a62, a63, a64, l, h0, hn, ht⟩ := R
  show ab_H X kX6_sheet 0 [some (.ref 54), some (.int (nI k)), some (.int b), some (.int (nI m)), none] [] w _
  refine h_s rfl ?_
  refine h_c rfl (m_isOne _) ?_
  refine h_t (show z01 (inN (nI k) 4) = 1 by rw [inN_n (by omega) hk]; rfl) ?_
  refine h_n (st2 := [_]) rfl ?_
  iterate 2 refine h_s rfl ?_
  refine h1_eq rfl rfl (fun h8 => ?_) (fun h8 => ?_)
  · exact m_sh36k R0 k m b hk hm
  · refine h_s rfl ?_
    refine h_k (y := 8) rfl rfl ?_
    refine h2_eq rfl rfl (fun h14 => ?_) (fun h14 => ?_)
    · exact m_sh36k R0 k m b hk hm
    · refine h_s rfl ?_
      refine h_k (y := 16) rfl rfl ?_
      refine h2_eq rfl rfl (fun h20 => ?_) (fun h20 => ?_)
      · exact m_sh36k R0 k m b hk hm
      · refine h_s rfl ?_
        refine h_k (y := 32) rfl rfl ?_
        refine h2_eq rfl rfl (fun h26 => ?_) (fun h26 => ?_)
        · exact m_sh36k R0 k m b hk hm
        · exact absurd hb (by simp [bitOK, h8, h14, h20, h26])
end ML
