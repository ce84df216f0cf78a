/-! COPY, in both -/
/-- numbers copied: i of them from place a to place b -/
def cpyN (nu : List Int32) (a b : Nat) : Nat → List Int32
  | 0 => nu
  | i + 1 => (cpyN nu a b i).set (b + i) (nu.getD (a + i) 0)
theorem cpy_l (nu : List Int32) (a b : Nat) : ∀ i, (cpyN nu a b i).length = nu.length
  | 0 => rfl
  | i + 1 => by rw [cpyN, List.length_set]; exact cpy_l nu a b i
theorem cpy_D (nu : List Int32) (a b : Nat) {j : Nat} : ∀ i, b + i ≤ nu.length → (cpyN nu a b i).getD j 0 = if b ≤ j ∧ j < b + i then nu.getD (a + (j - b)) 0 else nu.getD j 0
  | 0, _ => by rw [if_neg (by omega)]; rfl
  | i + 1, h => by
    rw [cpyN, gD_set _ _ _ _ (by rw [cpy_l]; omega), cpy_D nu a b i (by omega)]
    by_cases e : j = b + i
    · rw [if_pos e, if_pos (by omega), e, show a + (b + i - b) = a + i by omega]
    · rw [if_neg e]
      by_cases e2 : b ≤ j ∧ j < b + i
      · rw [if_pos e2, if_pos (by omega)]
      · rw [if_neg e2, if_neg (by omega)]
theorem sub_z {z : Nat} (hz : z ≤ 40) {a : Int32} (h : ¬ a < 0) : (nI z - a).toInt = (z : Int) - a.toInt := by
  obtain ⟨j, hj, rfl⟩ := nI_of h
  rw [Int32.toInt_sub, nI_toInt (by omega), nI_toInt hj]
  rw [Int.bmod_def]
  omega
theorem rng_m {z : Nat} (hz : z ≤ 40) (a m : Int32) : rngB z a m = (!decide (a < 0) && !decide (m < 0) && !decide (nI z - a < m)) := by
  unfold rngB
  by_cases ha : a < 0
  · simp [ha]
  · by_cases hm : m < 0
    · simp [hm]
    · by_cases h1 : nI z < a
      · have h2 : nI z - a < m := by
          rw [lt_iff, sub_z hz ha]
          rw [lt_iff, nI_toInt (by omega)] at h1
          rw [lt_iff] at hm
          have hm : ¬ m.toInt < 0 := hm
          omega
        rw [decide_eq_true h1, decide_eq_true h2]
        simp
      · simp [ha, hm, h1]
theorem rng_t {z : Nat} (hz : z ≤ 40) {a m : Int32} (h : rngB z a m = true) : ∃ a' m', a = nI a' ∧ m = nI m' ∧ a' + m' ≤ z := by
  rw [rng_m hz] at h
  simp only [Bool.and_eq_true, Bool.not_eq_true', decide_eq_false_iff_not] at h
  obtain ⟨⟨ha, hm⟩, h1⟩ := h
  rw [lt_iff, sub_z hz ha] at h1
  obtain ⟨a', ha', rfl⟩ := nI_of ha
  obtain ⟨m', hm', rfl⟩ := nI_of hm
  rw [nI_toInt ha', nI_toInt hm'] at h1
  exact ⟨a', m', rfl, rfl, by omega⟩
theorem rng_n {z a m : Nat} (hz : z ≤ 40) (h : a + m ≤ z) : rngB z (nI a) (nI m) = true := by
  rw [rng_m hz]
  simp only [Bool.and_eq_true, Bool.not_eq_true', decide_eq_false_iff_not]
  refine ⟨⟨nI_pos (by omega), nI_pos (by omega)⟩, ?_⟩
  rw [pk_sub (by omega)]
  exact nI_nlt (by omega) (by omega)
section RCPY
variable {X : List Int32} {k pc n : Nat} {ls : List (Option Value)} {st : List Value} {w : ab_W} {Q : Option Value → ab_W → Prop}
/-- System.arraycopy -/
theorem h_cpy {ix a0 a sp dp m e : Nat} {xs ys : List Int32} (h : ab_lk (it_ (ab_mi k)) pc = some (.invokestatic ix, n)) (hac : ab_lk (ab_ac (ic (ab_mi k))) ix = some e) (h0 : w[a0]? = some (.inr xs)) (h1 : w[a]? = some (.inr ys)) (b1 : sp + m ≤ xs.length) (b2 : dp + m ≤ ys.length) (hx : xs.length < 2 ^ 31) (hy : ys.length < 2 ^ 31) (hst : decide ((st.map Value.category).sum ≤ 8) = true)
    (t : ∀ w1 zs, w1[a]? = some (.inr zs) → zs.length = ys.length → (∀ j, j < ys.length → zs.getD j 0 = if dp ≤ j ∧ j < dp + m then xs.getD (sp + (j - dp)) 0 else ys.getD j 0) → (∀ i, i ≠ a → w1[i]? = w[i]?) → ab_H X k (pc + 3) ls st w1 Q) : ab_H X k pc ls (.int (nI m) :: .int (nI dp) :: .ref a :: .int (nI sp) :: .ref a0 :: st) w Q := by
  refine h_s (w' := w.set a (.inr ((List.range ys.length).map (va_cpy (fun j => xs.getD j 0) (fun j => ys.getD j 0) sp dp m)))) (pc' := pc + 3) (ls' := ls) (st' := st) ?_ (t _ _ (wd_set h1) (by simp) (fun j hj => ?_) (fun i hi => wd_ne hi))
  · rw [ab_stp_of h]
    show (match ab_lk (ab_ac (ic (ab_mi k))) ix with | some _ => ab_cpy pc ls (.int (nI m) :: .int (nI dp) :: .ref a :: .int (nI sp) :: .ref a0 :: st) w | none => _) = _
    rw [hac]
    show ab_cpy pc ls (.int (nI m) :: .int (nI dp) :: .ref a :: .int (nI sp) :: .ref a0 :: st) w = _
    unfold ab_cpy
    simp only [h0, h1]
    rw [nI_clamp (show sp < 2 ^ 31 by omega), nI_clamp (show dp < 2 ^ 31 by omega), nI_clamp (show m < 2 ^ 31 by omega), decide_eq_false (nI_pos (show sp < 2 ^ 31 by omega)), decide_eq_false (nI_pos (show dp < 2 ^ 31 by omega)), decide_eq_false (nI_pos (show m < 2 ^ 31 by omega)), hst, Nat.ble_eq_true_of_le b1, Nat.ble_eq_true_of_le b2]
    rfl
  · rw [List.getD_eq_getElem?_getD, List.getElem?_map, List.getElem?_range hj]
    rw [Option.map_some, Option.getD_some]
    by_cases e : dp ≤ j ∧ j < dp + m
    · rw [if_pos e, pk_cpy_in e.1 e.2]
    · rw [if_neg e, pk_cpy_out (by omega)]
end RCPY
section MCP
variable {X : List Int32} {w w1 : ab_W} {s : List Int32} {n : Nat} {st ks : List Int32} {kp : Bool} {tp : List Int32} {tn : Nat} {bo so nu : List Int32}
set_option maxRecDepth 100000 in
set_option maxHeartbeats 4000000 in
theorem m_copy_b (R : MW w s n st ks kp tp tn bo so nu) (a b c d e : Int32) (hb : (inN a 4 && inN c 4) = false) : ab_Q X kX6_copy [.ref 54, .int a, .int b, .int c, .int d, .int e] w (MP w (-1000001) s n (bump st 0) ks kp tp tn bo so nu) := by
  have M := R.ms
  have R0 := R
  have RC := R0
  obtain ⟨oth, nz, mv, fr, to, vl, wr, a54, a55, a56, a57, a58, a59, a60, a61, a62, a63, a64, l, h0, hn, ht⟩ := R
  show ab_H X kX6_copy 0 [some (.ref 54), some (.int a), some (.int b), some (.int c), some (.int d), some (.int e), none] [] w _
  refine h_s rfl ?_
  refine h_c rfl (m_isOne a) ?_
  refine h_n (st2 := [_]) rfl ?_
  refine hz_eq rfl rfl (fun h4 => ?_) (fun h4 => ?_)
  · refine h_s rfl ?_
    refine h_k (y := (-1000001)) rfl rfl ?_
    refine hq_v rfl rfl rfl a54 rfl rfl (m_finds RC 0 (by omega) _ (by decide)) (fun v9 w9 q9 => ?_)
    obtain ⟨rfl, q2, q3⟩ := q9
    refine h_n (st2 := [_]) rfl ?_
    exact h_ri rfl rfl ⟨rfl, q2, q3⟩
  · refine h_s rfl ?_
    refine h_c rfl (m_isOne c) ?_
    refine h_n (st2 := [_]) rfl ?_
    refine hz_ne rfl rfl (fun h11 => ?_) (fun h11 => ?_)
    · exact absurd hb (by simp [h4, h11])
    · refine h_s rfl ?_
      refine h_k (y := (-1000001)) rfl rfl ?_
      refine hq_v rfl rfl rfl a54 rfl rfl (m_finds RC 0 (by omega) _ (by decide)) (fun v9 w9 q9 => ?_)
      obtain ⟨rfl, q2, q3⟩ := q9
      refine h_n (st2 := [_]) rfl ?_
      exact h_ri rfl rfl ⟨rfl, q2, q3⟩
set_option maxRecDepth 100000 in
set_option maxHeartbeats 4000000 in
theorem m_copy_m (R : MW w s n st ks kp tp tn bo so nu) (k t : Nat) (b d e : Int32) (hk : k < 4) (ht4 : t < 4) (hb : bo.getD k 0 = 0 ∨ bo.getD t 0 = 0) : ab_Q X kX6_copy [.ref 54, .int (nI k), .int b, .int (nI t), .int d, .int e] w (MP w (-1000006) s n (bump st 5) ks kp tp tn bo so nu) := by
  have M := R.ms
  have R0 := R
  have RC := R0
  obtain ⟨oth, nz, mv, fr, to, vl, wr, a54, a55, a56, a57, a58, a59, a60, a61, a62, a63, a64, l, h0, hn, ht⟩ := R
  show ab_H X kX6_copy 0 [some (.ref 54), some (.int (nI k)), some (.int b), some (.int (nI t)), some (.int d), some (.int e), none] [] w _
  refine h_s rfl ?_
  refine h_c rfl (m_isOne (nI k)) ?_
  refine h_t (y := 1) (by rw [inN_n (by decide) (by omega)]; rfl) ?_
  refine h_n (st2 := [_]) rfl ?_
  iterate 2 refine h_s rfl ?_
  refine h_c rfl (m_isOne (nI t)) ?_
  refine h_t (y := 1) (by rw [inN_n (by decide) (by omega)]; rfl) ?_
  refine h_n (st2 := [_]) rfl ?_
  iterate 2 refine h_s rfl ?_
  refine h_gf rfl rfl rfl a54 rfl ?_
  refine h_s rfl ?_
  refine h_ia k rfl a61 (by omega) rfl (by omega) ?_
  refine h1_eq rfl rfl (fun h27 => ?_) (fun h27 => ?_)
  · refine h_s rfl ?_
    refine h_k (y := (-1000006)) rfl rfl ?_
    refine hq_v rfl rfl rfl a54 rfl rfl (m_finds RC 5 (by omega) _ (by decide)) (fun v9 w9 q9 => ?_)
    obtain ⟨rfl, q2, q3⟩ := q9
    refine h_n (st2 := [_]) rfl ?_
    exact h_ri rfl rfl ⟨rfl, q2, q3⟩
  · refine h_s rfl ?_
    refine h_gf rfl rfl rfl a54 rfl ?_
    refine h_s rfl ?_
    refine h_ia t rfl a61 (by omega) rfl (by omega) ?_
    refine h1_ne rfl rfl (fun h36 => ?_) (fun h36 => ?_)
    · exact absurd hb (fun q => q.elim h27 h36)
    · refine h_s rfl ?_
      refine h_k (y := (-1000006)) rfl rfl ?_
      refine hq_v rfl rfl rfl a54 rfl rfl (m_finds RC 5 (by omega) _ (by decide)) (fun v9 w9 q9 => ?_)
      obtain ⟨rfl, q2, q3⟩ := q9
      refine h_n (st2 := [_]) rfl ?_
      exact h_ri rfl rfl ⟨rfl, q2, q3⟩
set_option maxRecDepth 100000 in
set_option maxHeartbeats 4000000 in
theorem m_copy_w (R : MW w s n st ks kp tp tn bo so nu) (k t : Nat) (b d e : Int32) (hk : k < 4) (ht4 : t < 4) (hb : ¬ bo.getD k 0 = 0) (hc : ¬ bo.getD t 0 = 0) (hne : ¬ bo.getD k 0 = bo.getD t 0) : ab_Q X kX6_copy [.ref 54, .int (nI k), .int b, .int (nI t), .int d, .int e] w (MP w (-1000003) s n (bump st 2) ks kp tp tn bo so nu) := by
  have M := R.ms
  have R0 := R
  have RC := R0
  obtain ⟨oth, nz, mv, fr, to, vl, wr, a54, a55, a56, a57, a58, a59, a60, a61, a62, a63, a64, l, h0, hn, ht⟩ := R
  show ab_H X kX6_copy 0 [some (.ref 54), some (.int (nI k)), some (.int b), some (.int (nI t)), some (.int d), some (.int e), none] [] w _
  refine h_s rfl ?_
  refine h_c rfl (m_isOne (nI k)) ?_
  refine h_t (y := 1) (by rw [inN_n (by decide) (by omega)]; rfl) ?_
  refine h_n (st2 := [_]) rfl ?_
  iterate 2 refine h_s rfl ?_
  refine h_c rfl (m_isOne (nI t)) ?_
  refine h_t (y := 1) (by rw [inN_n (by decide) (by omega)]; rfl) ?_
  refine h_n (st2 := [_]) rfl ?_
  iterate 2 refine h_s rfl ?_
  refine h_gf rfl rfl rfl a54 rfl ?_
  refine h_s rfl ?_
  refine h_ia k rfl a61 (by omega) rfl (by omega) ?_
  refine h1_eq rfl rfl (fun h27 => absurd h27 (hb)) (fun h27 => ?_)
  refine h_s rfl ?_
  refine h_gf rfl rfl rfl a54 rfl ?_
  refine h_s rfl ?_
  refine h_ia t rfl a61 (by omega) rfl (by omega) ?_
  refine h1_ne rfl rfl (fun h36 => ?_) (fun h36 => absurd h36 (hc))
  refine h_s rfl ?_
  refine h_gf rfl rfl rfl a54 rfl ?_
  refine h_s rfl ?_
  refine h_ia k rfl a61 (by omega) rfl (by omega) ?_
  refine h_s rfl ?_
  refine h_gf rfl rfl rfl a54 rfl ?_
  refine h_s rfl ?_
  refine h_ia t rfl a61 (by omega) rfl (by omega) ?_
  refine h2_eq rfl rfl (fun h59 => absurd h59 (hne)) (fun h59 => ?_)
  refine h_s rfl ?_
  refine h_k (y := (-1000003)) rfl rfl ?_
  refine hq_v rfl rfl rfl a54 rfl rfl (m_finds RC 2 (by omega) _ (by decide)) (fun v9 w9 q9 => ?_)
  obtain ⟨rfl, q2, q3⟩ := q9
  refine h_n (st2 := [_]) rfl ?_
  exact h_ri rfl rfl ⟨rfl, q2, q3⟩
set_option maxRecDepth 100000 in
set_option maxHeartbeats 4000000 in
theorem m_copy_r (R : MW w s n st ks kp tp tn bo so nu) (k t z y : Nat) (hk : k < 4) (ht4 : t < 4) (hz : so.getD k 0 = nI z) (hz40 : z ≤ 40) (hy : so.getD t 0 = nI y) (hy40 : y ≤ 40) (b d e : Int32) (hb : ¬ bo.getD k 0 = 0) (hc : ¬ bo.getD t 0 = 0) (heq : bo.getD k 0 = bo.getD t 0) (hr : (rngB z b e && rngB y d e) = false) : ab_Q X kX6_copy [.ref 54, .int (nI k), .int b, .int (nI t), .int d, .int e] w (MP w (-1000001) s n (bump st 0) ks kp tp tn bo so nu) := by
  have M := R.ms
  have R0 := R
  have RC := R0
  obtain ⟨oth, nz, mv, fr, to, vl, wr, a54, a55, a56, a57, a58, a59, a60, a61, a62, a63, a64, l, h0, hn, ht⟩ := R
  show ab_H X kX6_copy 0 [some (.ref 54), some (.int (nI k)), some (.int b), some (.int (nI t)), some (.int d), some (.int e), none] [] w _
  refine h_s rfl ?_
  refine h_c rfl (m_isOne (nI k)) ?_
  refine h_t (y := 1) (by rw [inN_n (by decide) (by omega)]; rfl) ?_
  refine h_n (st2 := [_]) rfl ?_
  iterate 2 refine h_s rfl ?_
  refine h_c rfl (m_isOne (nI t)) ?_
  refine h_t (y := 1) (by rw [inN_n (by decide) (by omega)]; rfl) ?_
  refine h_n (st2 := [_]) rfl ?_
  iterate 2 refine h_s rfl ?_
  refine h_gf rfl rfl rfl a54 rfl ?_
  refine h_s rfl ?_
  refine h_ia k rfl a61 (by omega) rfl (by omega) ?_
  refine h1_eq rfl rfl (fun h27 => absurd h27 (hb)) (fun h27 => ?_)
  refine h_s rfl ?_
  refine h_gf rfl rfl rfl a54 rfl ?_
  refine h_s rfl ?_
  refine h_ia t rfl a61 (by omega) rfl (by omega) ?_
  refine h1_ne rfl rfl (fun h36 => ?_) (fun h36 => absurd h36 (hc))
  refine h_s rfl ?_
  refine h_gf rfl rfl rfl a54 rfl ?_
  refine h_s rfl ?_
  refine h_ia k rfl a61 (by omega) rfl (by omega) ?_
  refine h_s rfl ?_
  refine h_gf rfl rfl rfl a54 rfl ?_
  refine h_s rfl ?_
  refine h_ia t rfl a61 (by omega) rfl (by omega) ?_
  refine h2_eq rfl rfl (fun h59 => ?_) (fun h59 => absurd (heq) h59)
  refine h_s rfl ?_
  refine h1_lt rfl rfl (fun h71 => ?_) (fun h71 => ?_)
  · refine h_s rfl ?_
    refine h_k (y := (-1000001)) rfl rfl ?_
    refine hq_v rfl rfl rfl a54 rfl rfl (m_finds RC 0 (by omega) _ (by decide)) (fun v9 w9 q9 => ?_)
    obtain ⟨rfl, q2, q3⟩ := q9
    refine h_n (st2 := [_]) rfl ?_
    exact h_ri rfl rfl ⟨rfl, q2, q3⟩
  · refine h_s rfl ?_
    refine h1_lt rfl rfl (fun h76 => ?_) (fun h76 => ?_)
    · refine h_s rfl ?_
      refine h_k (y := (-1000001)) rfl rfl ?_
      refine hq_v rfl rfl rfl a54 rfl rfl (m_finds RC 0 (by omega) _ (by decide)) (fun v9 w9 q9 => ?_)
      obtain ⟨rfl, q2, q3⟩ := q9
      refine h_n (st2 := [_]) rfl ?_
      exact h_ri rfl rfl ⟨rfl, q2, q3⟩
    · refine h_s rfl ?_
      refine h1_lt rfl rfl (fun h81 => ?_) (fun h81 => ?_)
      · refine h_s rfl ?_
        refine h_k (y := (-1000001)) rfl rfl ?_
        refine hq_v rfl rfl rfl a54 rfl rfl (m_finds RC 0 (by omega) _ (by decide)) (fun v9 w9 q9 => ?_)
        obtain ⟨rfl, q2, q3⟩ := q9
        refine h_n (st2 := [_]) rfl ?_
        exact h_ri rfl rfl ⟨rfl, q2, q3⟩
      · iterate 2 refine h_s rfl ?_
        refine h_gf rfl rfl rfl a54 rfl ?_
        refine h_s rfl ?_
        refine h_ia k rfl a62 (by omega) rfl (by omega) ?_
        refine h_t hz ?_
        iterate 2 refine h_s rfl ?_
        refine h2_gt rfl rfl (fun h94 => ?_) (fun h94 => ?_)
        · refine h_s rfl ?_
          refine h_k (y := (-1000001)) rfl rfl ?_
          refine hq_v rfl rfl rfl a54 rfl rfl (m_finds RC 0 (by omega) _ (by decide)) (fun v9 w9 q9 => ?_)
          obtain ⟨rfl, q2, q3⟩ := q9
          refine h_n (st2 := [_]) rfl ?_
          exact h_ri rfl rfl ⟨rfl, q2, q3⟩
        · iterate 2 refine h_s rfl ?_
          refine h_gf rfl rfl rfl a54 rfl ?_
          refine h_s rfl ?_
          refine h_ia t rfl a62 (by omega) rfl (by omega) ?_
          refine h_t hy ?_
          iterate 2 refine h_s rfl ?_
          refine h2_le rfl rfl (fun h108 => ?_) (fun h108 => ?_)
          · exact absurd hr (by rw [rng_m hz40, rng_m hy40]; simp [h71, h76, h81, h94, Int32.not_lt.mpr h108])
          · refine h_s rfl ?_
            refine h_k (y := (-1000001)) rfl rfl ?_
            refine hq_v rfl rfl rfl a54 rfl rfl (m_finds RC 0 (by omega) _ (by decide)) (fun v9 w9 q9 => ?_)
            obtain ⟨rfl, q2, q3⟩ := q9
            refine h_n (st2 := [_]) rfl ?_
            exact h_ri rfl rfl ⟨rfl, q2, q3⟩
set_option maxRecDepth 100000 in
set_option maxHeartbeats 4000000 in
theorem m_copy_k (R : MW w s n st ks kp tp tn bo so nu) (k t z y : Nat) (hk : k < 4) (ht4 : t < 4) (hz : so.getD k 0 = nI z) (hz40 : z ≤ 40) (hy : so.getD t 0 = nI y) (hy40 : y ≤ 40) (b d m : Nat) (hb : ¬ bo.getD k 0 = 0) (hc : ¬ bo.getD t 0 = 0) (heq : bo.getD k 0 = bo.getD t 0) (h1 : b + m ≤ z) (h2 : d + m ≤ y) : ab_Q X kX6_copy [.ref 54, .int (nI k), .int (nI b), .int (nI t), .int (nI d), .int (nI m)] w (MP w (nI m) s n st ks kp tp tn bo so (cpyN nu (40 * k + b) (40 * t + d) m)) := by
  have M := R.ms
  have R0 := R
  have RC := R0
  obtain ⟨oth, nz, mv, fr, to, vl, wr, a54, a55, a56, a57, a58, a59, a60, a61, a62, a63, a64, l, h0, hn, ht⟩ := R
  have a54_ := a54
  show ab_H X kX6_copy 0 [some (.ref 54), some (.int (nI k)), some (.int (nI b)), some (.int (nI t)), some (.int (nI d)), some (.int (nI m)), none] [] w _
  refine h_s rfl ?_
  refine h_c rfl (m_isOne (nI k)) ?_
  refine h_t (y := 1) (by rw [inN_n (by decide) (by omega)]; rfl) ?_
  refine h_n (st2 := [_]) rfl ?_
  iterate 2 refine h_s rfl ?_
  refine h_c rfl (m_isOne (nI t)) ?_
  refine h_t (y := 1) (by rw [inN_n (by decide) (by omega)]; rfl) ?_
  refine h_n (st2 := [_]) rfl ?_
  iterate 2 refine h_s rfl ?_
  refine h_gf rfl rfl rfl a54 rfl ?_
  refine h_s rfl ?_
  refine h_ia k rfl a61 (by omega) rfl (by omega) ?_
  refine h1_eq rfl rfl (fun h27 => absurd h27 (hb)) (fun h27 => ?_)
  refine h_s rfl ?_
  refine h_gf rfl rfl rfl a54 rfl ?_
  refine h_s rfl ?_
  refine h_ia t rfl a61 (by omega) rfl (by omega) ?_
  refine h1_ne rfl rfl (fun h36 => ?_) (fun h36 => absurd h36 (hc))
  refine h_s rfl ?_
  refine h_gf rfl rfl rfl a54 rfl ?_
  refine h_s rfl ?_
  refine h_ia k rfl a61 (by omega) rfl (by omega) ?_
  refine h_s rfl ?_
  refine h_gf rfl rfl rfl a54 rfl ?_
  refine h_s rfl ?_
  refine h_ia t rfl a61 (by omega) rfl (by omega) ?_
  refine h2_eq rfl rfl (fun h59 => ?_) (fun h59 => absurd (heq) h59)
  refine h_s rfl ?_
  refine hM_lt rfl rfl rfl rfl (by omega) (fun h71 => absurd h71 (by omega)) (fun h71 => ?_)
  refine h_s rfl ?_
  refine hM_lt rfl rfl rfl rfl (by omega) (fun h76 => absurd h76 (by omega)) (fun h76 => ?_)
  refine h_s rfl ?_
  refine hM_lt rfl rfl rfl rfl (by omega) (fun h81 => absurd h81 (by omega)) (fun h81 => ?_)
  iterate 2 refine h_s rfl ?_
  refine h_gf rfl rfl rfl a54 rfl ?_
  refine h_s rfl ?_
  refine h_ia k rfl a62 (by omega) rfl (by omega) ?_
  refine h_t hz ?_
  refine h_s rfl ?_
  refine h_Nsub rfl rfl rfl (by omega) ?_
  refine hN_gt rfl rfl rfl rfl (by omega) (by omega) (fun h94 => absurd h94 (by omega)) (fun h94 => ?_)
  iterate 2 refine h_s rfl ?_
  refine h_gf rfl rfl rfl a54 rfl ?_
  refine h_s rfl ?_
  refine h_ia t rfl a62 (by omega) rfl (by omega) ?_
  refine h_t hy ?_
  refine h_s rfl ?_
  refine h_Nsub rfl rfl rfl (by omega) ?_
  refine hN_le rfl rfl rfl rfl (by omega) (by omega) (fun h108 => ?_) (fun h108 => absurd (by omega) h108)
  refine h_k (y := 0) rfl rfl ?_
  refine h_s rfl ?_
  refine h_loop0 m (fun i ls v => ls = [some (.ref 54), some (.int (nI k)), some (.int (nI b)), some (.int (nI t)), some (.int (nI d)), some (.int (nI m)), some (.int (nI i))] ∧ (∀ j, j ≠ 64 → v[j]? = w[j]?) ∧ ∃ mv, v[64]? = some (.inr mv) ∧ mv.length = 40 ∧ ∀ j, j < i → mv.getD j 0 = nu.getD (40 * k + b + j) 0) ⟨rfl, fun _ _ => rfl, mv, a64, l.2.2.2.2.2.2.2.2.2, fun j hj => absurd hj (by omega)⟩ (fun i ls v hi hJ ih => ?_) (fun ls v hJ => ?_)
  · obtain ⟨rfl, F, mv, a64, ml, g⟩ := hJ
    have a54 := (F 54 (by decide)).trans a54
    have a63 := (F 63 (by decide)).trans a63
    iterate 2 refine h_s rfl ?_
    refine hN_ge rfl rfl rfl rfl (by omega) (by omega) (fun h125 => absurd h125 (by omega)) (fun h125 => ?_)
    refine h_s rfl ?_
    refine h_gf rfl rfl rfl a54 rfl ?_
    iterate 2 refine h_s rfl ?_
    refine h_gf rfl rfl rfl a54 rfl ?_
    refine h_k (y := 40) rfl rfl ?_
    refine h_s rfl ?_
    refine h_Nmul (a := 40) rfl rfl rfl ?_
    refine h_s rfl ?_
    refine h_Nadd rfl rfl rfl ?_
    refine h_s rfl ?_
    refine h_Nadd rfl rfl rfl ?_
    refine h_ia _ rfl a63 (by omega) rfl (by omega) ?_
    refine h_is i rfl a64 (by omega) rfl (by omega) (fun w2 e2 f2 => ?_)
    refine h_ii rfl rfl rfl ?_
    refine h_s rfl ?_
    refine ih _ _ ⟨rfl, fun j hj => (f2 j hj).trans (F j hj), _, e2, by rw [List.length_set]; exact ml, fun j hj => ?_⟩
    rw [gD_set _ _ _ _ (by omega)]
    by_cases e : j = i
    · rw [if_pos e, e]
    · rw [if_neg e]
      exact g j (by omega)
  · obtain ⟨rfl, F, mv, a64, ml, g⟩ := hJ
    have a54 := (F 54 (by decide)).trans a54
    have a63 := (F 63 (by decide)).trans a63
    iterate 2 refine h_s rfl ?_
    refine hN_ge rfl rfl rfl rfl (by omega) (by omega) (fun h125 => ?_) (fun h125 => absurd (by omega) h125)
    refine h_k (y := 0) rfl rfl ?_
    refine h_s rfl ?_
    refine h_loop0 m (fun i ls v => ls = [some (.ref 54), some (.int (nI k)), some (.int (nI b)), some (.int (nI t)), some (.int (nI d)), some (.int (nI m)), some (.int (nI i))] ∧ (∀ j, j ≠ 63 → j ≠ 64 → v[j]? = w[j]?) ∧ v[64]? = some (.inr mv) ∧ v[63]? = some (.inr (cpyN nu (40 * k + b) (40 * t + d) i))) ⟨rfl, fun j _ h6 => F j h6, a64, a63⟩ (fun i ls v hi hJ ih => ?_) (fun ls v hJ => ?_)
    · obtain ⟨rfl, F, a64, a63⟩ := hJ
      have a54 := (F 54 (by decide) (by decide)).trans (show w[54]? = _ from a54_)
      have cl := cpy_l nu (40 * k + b) (40 * t + d) i
      iterate 2 refine h_s rfl ?_
      refine hN_ge rfl rfl rfl rfl (by omega) (by omega) (fun h162 => absurd h162 (by omega)) (fun h162 => ?_)
      refine h_s rfl ?_
      refine h_gf rfl rfl rfl a54 rfl ?_
      refine h_k (y := 40) rfl rfl ?_
      refine h_s rfl ?_
      refine h_Nmul (a := 40) rfl rfl rfl ?_
      refine h_s rfl ?_
      refine h_Nadd rfl rfl rfl ?_
      refine h_s rfl ?_
      refine h_Nadd rfl rfl rfl ?_
      refine h_s rfl ?_
      refine h_gf rfl rfl rfl a54 rfl ?_
      refine h_s rfl ?_
      refine h_ia i rfl a64 (by omega) rfl (by omega) ?_
      refine h_t (g i hi) ?_
      refine h_is (40 * t + d + i) rfl a63 (by omega) rfl (by omega) (fun w2 e2 f2 => ?_)
      refine h_ii rfl rfl rfl ?_
      refine h_s rfl ?_
      exact ih _ _ ⟨rfl, fun j h5 h6 => (f2 j h5).trans (F j h5 h6), (f2 64 (by decide)).trans a64, e2⟩
    · obtain ⟨rfl, F, a64, a63⟩ := hJ
      have cl := cpy_l nu (40 * k + b) (40 * t + d) m
      iterate 2 refine h_s rfl ?_
      refine hN_ge rfl rfl rfl rfl (by omega) (by omega) (fun h162 => ?_) (fun h162 => absurd (by omega) h162)
      refine h_s rfl ?_
      exact h_ri rfl rfl ⟨rfl, R0.sh ((F 61 (by decide) (by decide)).trans a61) ((F 62 (by decide) (by decide)).trans a62) a63 a64 l.2.2.2.2.2.2.1 l.2.2.2.2.2.2.2.1 (cl.trans l.2.2.2.2.2.2.2.2.1) ml (fun i hi => F i (by omega) (by omega)), fun i hi => F i (by omega) (by omega)⟩
end MCP
section XCP
variable {X : List Int32} {w w1 : ab_W} {r : Nat} {s : List Int32} {n : Nat} {st ks : List Int32} {kp : Bool} {tp : List Int32} {tn : Nat} {bo so nu : List Int32}
set_option maxRecDepth 100000 in
set_option maxHeartbeats 4000000 in
theorem x_copy_b (R : XW w s n st ks kp tp tn bo so nu) (a b c d e : Int32) (hb : (inN a 4 && inN c 4) = false) : ab_Q X kX5_copy [.ref 0, .int a, .int b, .int c, .int d, .int e] w (XP w (-1000001) s n (bump st 0) ks kp tp tn bo so nu) := by
  have R0 := R
  obtain ⟨x0, XR, ⟨sd, nd, XD⟩, ⟨sk, nk, XK, hkp⟩, XPl, XT, XS, x45, xl⟩ := R
  have r0 := XR.1
  have p0 := XPl.1
  have d0 := XD.1
  have hn : n ≤ 8 := XR.2.2.2.2.2.2.2
  have RC := R0
  show ab_H X kX5_copy 0 [some (.ref 0), some (.int a), some (.int b), some (.int c), some (.int d), some (.int e), none, none] [] w _
  cases ha : inN a 4 with
  | false =>
    cases hc : inN c 4 with
    | false =>
      iterate 2 refine h_s rfl ?_
      refine h_cv rfl rfl rfl x0 rfl rfl (x_sheetAtO x0 XS a ha) ?_
      refine h_n (st2 := [_]) rfl ?_
      iterate 3 refine h_s rfl ?_
      refine h_cv rfl rfl rfl x0 rfl rfl (x_sheetAtO x0 XS c hc) ?_
      refine h_n (st2 := [_]) rfl ?_
      iterate 4 refine h_s rfl ?_
      refine h_k (y := (-1000001)) rfl rfl ?_
      refine hq_v rfl rfl rfl x0 rfl rfl (x_found RC 0 (by omega) _ (by decide)) (fun v9 w9 q9 => ?_)
      obtain ⟨rfl, q2, q3⟩ := q9
      refine h_n (st2 := [_]) rfl ?_
      exact h_ri rfl rfl ⟨rfl, q2, q3⟩
    | true =>
      obtain ⟨t, ht4, rfl⟩ := inN_t (by decide) hc
      iterate 2 refine h_s rfl ?_
      refine h_cv rfl rfl rfl x0 rfl rfl (x_sheetAtO x0 XS a ha) ?_
      refine h_n (st2 := [_]) rfl ?_
      iterate 3 refine h_s rfl ?_
      refine h_cv rfl rfl rfl x0 rfl rfl (x_sheetAt x0 XS ht4) ?_
      refine h_n (st2 := [_]) rfl ?_
      iterate 4 refine h_s rfl ?_
      refine h_k (y := (-1000001)) rfl rfl ?_
      refine hq_v rfl rfl rfl x0 rfl rfl (x_found RC 0 (by omega) _ (by decide)) (fun v9 w9 q9 => ?_)
      obtain ⟨rfl, q2, q3⟩ := q9
      refine h_n (st2 := [_]) rfl ?_
      exact h_ri rfl rfl ⟨rfl, q2, q3⟩
  | true =>
    obtain ⟨k, hk, rfl⟩ := inN_t (by decide) ha
    cases hc : inN c 4 with
    | false =>
      iterate 2 refine h_s rfl ?_
      refine h_cv rfl rfl rfl x0 rfl rfl (x_sheetAt x0 XS hk) ?_
      refine h_n (st2 := [_]) rfl ?_
      iterate 3 refine h_s rfl ?_
      refine h_cv rfl rfl rfl x0 rfl rfl (x_sheetAtO x0 XS c hc) ?_
      refine h_n (st2 := [_]) rfl ?_
      iterate 6 refine h_s rfl ?_
      refine h_k (y := (-1000001)) rfl rfl ?_
      refine hq_v rfl rfl rfl x0 rfl rfl (x_found RC 0 (by omega) _ (by decide)) (fun v9 w9 q9 => ?_)
      obtain ⟨rfl, q2, q3⟩ := q9
      refine h_n (st2 := [_]) rfl ?_
      exact h_ri rfl rfl ⟨rfl, q2, q3⟩
    | true => exact absurd hb (by rw [ha, hc]; decide)
set_option maxRecDepth 100000 in
set_option maxHeartbeats 4000000 in
theorem x_copy_m (R : XW w s n st ks kp tp tn bo so nu) (k t : Nat) (b d e : Int32) (hk : k < 4) (ht4 : t < 4) (hb : bo.getD k 0 = 0 ∨ bo.getD t 0 = 0) : ab_Q X kX5_copy [.ref 0, .int (nI k), .int b, .int (nI t), .int d, .int e] w (XP w (-1000006) s n (bump st 5) ks kp tp tn bo so nu) := by
  have R0 := R
  obtain ⟨x0, XR, ⟨sd, nd, XD⟩, ⟨sk, nk, XK, hkp⟩, XPl, XT, XS, x45, xl⟩ := R
  have r0 := XR.1
  have p0 := XPl.1
  have d0 := XD.1
  have hn : n ≤ 8 := XR.2.2.2.2.2.2.2
  have RC := R0
  show ab_H X kX5_copy 0 [some (.ref 0), some (.int (nI k)), some (.int b), some (.int (nI t)), some (.int d), some (.int e), none, none] [] w _
  have hq := XS.2.1 k hk
  have tq := XS.2.1 t ht4
  obtain ⟨xs, hx, hl, hg⟩ := XS.2.2.1 k hk
  obtain ⟨ys, tx, tl, tg⟩ := XS.2.2.1 t ht4
  iterate 2 refine h_s rfl ?_
  refine h_cv rfl rfl rfl x0 rfl rfl (x_sheetAt x0 XS hk) ?_
  refine h_n (st2 := [_]) rfl ?_
  iterate 3 refine h_s rfl ?_
  refine h_cv rfl rfl rfl x0 rfl rfl (x_sheetAt x0 XS ht4) ?_
  refine h_n (st2 := [_]) rfl ?_
  iterate 6 refine h_s rfl ?_
  refine h_cv rfl rfl rfl hq rfl rfl (x_isMissing hq) ?_
  refine h_n (st2 := [_]) rfl ?_
  refine hd_ne rfl rfl (fun h36 => ?_) (fun h36 => ?_)
  · refine h_s rfl ?_
    refine h_k (y := (-1000006)) rfl rfl ?_
    refine hq_v rfl rfl rfl x0 rfl rfl (x_found RC 5 (by omega) _ (by decide)) (fun v9 w9 q9 => ?_)
    obtain ⟨rfl, q2, q3⟩ := q9
    refine h_n (st2 := [_]) rfl ?_
    exact h_ri rfl rfl ⟨rfl, q2, q3⟩
  · refine h_s rfl ?_
    refine h_cv rfl rfl rfl tq rfl rfl (x_isMissing tq) ?_
    refine h_n (st2 := [_]) rfl ?_
    refine hd_eq rfl rfl (fun h44 => ?_) (fun h44 => ?_)
    · exact absurd hb (fun q => q.elim h36 h44)
    · refine h_s rfl ?_
      refine h_k (y := (-1000006)) rfl rfl ?_
      refine hq_v rfl rfl rfl x0 rfl rfl (x_found RC 5 (by omega) _ (by decide)) (fun v9 w9 q9 => ?_)
      obtain ⟨rfl, q2, q3⟩ := q9
      refine h_n (st2 := [_]) rfl ?_
      exact h_ri rfl rfl ⟨rfl, q2, q3⟩
set_option maxRecDepth 100000 in
set_option maxHeartbeats 4000000 in
theorem x_copy_w (R : XW w s n st ks kp tp tn bo so nu) (k t : Nat) (b d e : Int32) (hk : k < 4) (ht4 : t < 4) (hb : ¬ bo.getD k 0 = 0) (hc : ¬ bo.getD t 0 = 0) (hne : ¬ bo.getD k 0 = bo.getD t 0) : ab_Q X kX5_copy [.ref 0, .int (nI k), .int b, .int (nI t), .int d, .int e] w (XP w (-1000003) s n (bump st 2) ks kp tp tn bo so nu) := by
  have R0 := R
  obtain ⟨x0, XR, ⟨sd, nd, XD⟩, ⟨sk, nk, XK, hkp⟩, XPl, XT, XS, x45, xl⟩ := R
  have r0 := XR.1
  have p0 := XPl.1
  have d0 := XD.1
  have hn : n ≤ 8 := XR.2.2.2.2.2.2.2
  have RC := R0
  show ab_H X kX5_copy 0 [some (.ref 0), some (.int (nI k)), some (.int b), some (.int (nI t)), some (.int d), some (.int e), none, none] [] w _
  have hq := XS.2.1 k hk
  have tq := XS.2.1 t ht4
  obtain ⟨xs, hx, hl, hg⟩ := XS.2.2.1 k hk
  obtain ⟨ys, tx, tl, tg⟩ := XS.2.2.1 t ht4
  iterate 2 refine h_s rfl ?_
  refine h_cv rfl rfl rfl x0 rfl rfl (x_sheetAt x0 XS hk) ?_
  refine h_n (st2 := [_]) rfl ?_
  iterate 3 refine h_s rfl ?_
  refine h_cv rfl rfl rfl x0 rfl rfl (x_sheetAt x0 XS ht4) ?_
  refine h_n (st2 := [_]) rfl ?_
  iterate 6 refine h_s rfl ?_
  refine h_cv rfl rfl rfl hq rfl rfl (x_isMissing hq) ?_
  refine h_n (st2 := [_]) rfl ?_
  refine hd_ne rfl rfl (fun h36 => absurd h36 (hb)) (fun h36 => ?_)
  refine h_s rfl ?_
  refine h_cv rfl rfl rfl tq rfl rfl (x_isMissing tq) ?_
  refine h_n (st2 := [_]) rfl ?_
  refine hd_eq rfl rfl (fun h44 => ?_) (fun h44 => absurd h44 (hc))
  refine h_s rfl ?_
  refine h_gf rfl rfl rfl hq rfl ?_
  refine h_s rfl ?_
  refine h_gf rfl rfl rfl tq rfl ?_
  refine h2_eq rfl rfl (fun h64 => absurd h64 (hne)) (fun h64 => ?_)
  refine h_s rfl ?_
  refine h_k (y := (-1000003)) rfl rfl ?_
  refine hq_v rfl rfl rfl x0 rfl rfl (x_found RC 2 (by omega) _ (by decide)) (fun v9 w9 q9 => ?_)
  obtain ⟨rfl, q2, q3⟩ := q9
  refine h_n (st2 := [_]) rfl ?_
  exact h_ri rfl rfl ⟨rfl, q2, q3⟩
set_option maxRecDepth 100000 in
set_option maxHeartbeats 4000000 in
theorem x_copy_r (R : XW w s n st ks kp tp tn bo so nu) (k t z y : Nat) (hk : k < 4) (ht4 : t < 4) (hz : so.getD k 0 = nI z) (hz40 : z ≤ 40) (hy : so.getD t 0 = nI y) (hy40 : y ≤ 40) (b d e : Int32) (hb : ¬ bo.getD k 0 = 0) (hc : ¬ bo.getD t 0 = 0) (heq : bo.getD k 0 = bo.getD t 0) (hr : (rngB z b e && rngB y d e) = false) : ab_Q X kX5_copy [.ref 0, .int (nI k), .int b, .int (nI t), .int d, .int e] w (XP w (-1000001) s n (bump st 0) ks kp tp tn bo so nu) := by
  have R0 := R
  obtain ⟨x0, XR, ⟨sd, nd, XD⟩, ⟨sk, nk, XK, hkp⟩, XPl, XT, XS, x45, xl⟩ := R
  have r0 := XR.1
  have p0 := XPl.1
  have d0 := XD.1
  have hn : n ≤ 8 := XR.2.2.2.2.2.2.2
  have RC := R0
  show ab_H X kX5_copy 0 [some (.ref 0), some (.int (nI k)), some (.int b), some (.int (nI t)), some (.int d), some (.int e), none, none] [] w _
  have hq := XS.2.1 k hk
  have tq := XS.2.1 t ht4
  obtain ⟨xs, hx, hl, hg⟩ := XS.2.2.1 k hk
  obtain ⟨ys, tx, tl, tg⟩ := XS.2.2.1 t ht4
  rw [hz] at hq
  rw [hy] at tq
  iterate 2 refine h_s rfl ?_
  refine h_cv rfl rfl rfl x0 rfl rfl (x_sheetAt x0 XS hk) ?_
  refine h_n (st2 := [_]) rfl ?_
  iterate 3 refine h_s rfl ?_
  refine h_cv rfl rfl rfl x0 rfl rfl (x_sheetAt x0 XS ht4) ?_
  refine h_n (st2 := [_]) rfl ?_
  iterate 6 refine h_s rfl ?_
  refine h_cv rfl rfl rfl hq rfl rfl (x_isMissing hq) ?_
  refine h_n (st2 := [_]) rfl ?_
  refine hd_ne rfl rfl (fun h36 => absurd h36 (hb)) (fun h36 => ?_)
  refine h_s rfl ?_
  refine h_cv rfl rfl rfl tq rfl rfl (x_isMissing tq) ?_
  refine h_n (st2 := [_]) rfl ?_
  refine hd_eq rfl rfl (fun h44 => ?_) (fun h44 => absurd h44 (hc))
  refine h_s rfl ?_
  refine h_gf rfl rfl rfl hq rfl ?_
  refine h_s rfl ?_
  refine h_gf rfl rfl rfl tq rfl ?_
  refine h2_eq rfl rfl (fun h64 => ?_) (fun h64 => absurd (heq) h64)
  iterate 3 refine h_s rfl ?_
  refine h_cv rfl rfl rfl hq rfl rfl (x_hasRange hq b e) ?_
  refine h_n (st2 := [_]) rfl ?_
  refine hz_eq rfl rfl (fun h82 => ?_) (fun h82 => ?_)
  · refine h_s rfl ?_
    refine h_k (y := (-1000001)) rfl rfl ?_
    refine hq_v rfl rfl rfl x0 rfl rfl (x_found RC 0 (by omega) _ (by decide)) (fun v9 w9 q9 => ?_)
    obtain ⟨rfl, q2, q3⟩ := q9
    refine h_n (st2 := [_]) rfl ?_
    exact h_ri rfl rfl ⟨rfl, q2, q3⟩
  · iterate 3 refine h_s rfl ?_
    refine h_cv rfl rfl rfl tq rfl rfl (x_hasRange tq d e) ?_
    refine h_n (st2 := [_]) rfl ?_
    refine hz_ne rfl rfl (fun h94 => ?_) (fun h94 => ?_)
    · exact absurd hr (by rw [h82, h94]; decide)
    · refine h_s rfl ?_
      refine h_k (y := (-1000001)) rfl rfl ?_
      refine hq_v rfl rfl rfl x0 rfl rfl (x_found RC 0 (by omega) _ (by decide)) (fun v9 w9 q9 => ?_)
      obtain ⟨rfl, q2, q3⟩ := q9
      refine h_n (st2 := [_]) rfl ?_
      exact h_ri rfl rfl ⟨rfl, q2, q3⟩
set_option maxRecDepth 100000 in
set_option maxHeartbeats 4000000 in
theorem x_copy_k (R : XW w s n st ks kp tp tn bo so nu) (k t z y : Nat) (hk : k < 4) (ht4 : t < 4) (hz : so.getD k 0 = nI z) (hz40 : z ≤ 40) (hy : so.getD t 0 = nI y) (hy40 : y ≤ 40) (b d m : Nat) (hb : ¬ bo.getD k 0 = 0) (hc : ¬ bo.getD t 0 = 0) (heq : bo.getD k 0 = bo.getD t 0) (h1 : b + m ≤ z) (h2 : d + m ≤ y) : ab_Q X kX5_copy [.ref 0, .int (nI k), .int (nI b), .int (nI t), .int (nI d), .int (nI m)] w (XP w (nI m) s n st ks kp tp tn bo so (cpyN nu (40 * k + b) (40 * t + d) m)) := by
  have R0 := R
  obtain ⟨x0, XR, ⟨sd, nd, XD⟩, ⟨sk, nk, XK, hkp⟩, XPl, XT, XS, x45, xl⟩ := R
  have r0 := XR.1
  have p0 := XPl.1
  have d0 := XD.1
  have hn : n ≤ 8 := XR.2.2.2.2.2.2.2
  have RC := R0
  show ab_H X kX5_copy 0 [some (.ref 0), some (.int (nI k)), some (.int (nI b)), some (.int (nI t)), some (.int (nI d)), some (.int (nI m)), none, none] [] w _
  have hq := XS.2.1 k hk
  have tq := XS.2.1 t ht4
  obtain ⟨xs, hx, hl, hg⟩ := XS.2.2.1 k hk
  obtain ⟨ys, tx, tl, tg⟩ := XS.2.2.1 t ht4
  rw [hz] at hq
  rw [hy] at tq
  iterate 2 refine h_s rfl ?_
  refine h_cv rfl rfl rfl x0 rfl rfl (x_sheetAt x0 XS hk) ?_
  refine h_n (st2 := [_]) rfl ?_
  iterate 3 refine h_s rfl ?_
  refine h_cv rfl rfl rfl x0 rfl rfl (x_sheetAt x0 XS ht4) ?_
  refine h_n (st2 := [_]) rfl ?_
  iterate 6 refine h_s rfl ?_
  refine h_cv rfl rfl rfl hq rfl rfl (x_isMissing hq) ?_
  refine h_n (st2 := [_]) rfl ?_
  refine hd_ne rfl rfl (fun h36 => absurd h36 (hb)) (fun h36 => ?_)
  refine h_s rfl ?_
  refine h_cv rfl rfl rfl tq rfl rfl (x_isMissing tq) ?_
  refine h_n (st2 := [_]) rfl ?_
  refine hd_eq rfl rfl (fun h44 => ?_) (fun h44 => absurd h44 (hc))
  refine h_s rfl ?_
  refine h_gf rfl rfl rfl hq rfl ?_
  refine h_s rfl ?_
  refine h_gf rfl rfl rfl tq rfl ?_
  refine h2_eq rfl rfl (fun h64 => ?_) (fun h64 => absurd (heq) h64)
  iterate 3 refine h_s rfl ?_
  refine h_cv rfl rfl rfl hq rfl rfl (x_hasRange hq (nI b) (nI m)) ?_
  refine h_t (y := 1) (by rw [rng_n (by omega) (by omega)]; rfl) ?_
  refine h_n (st2 := [_]) rfl ?_
  iterate 4 refine h_s rfl ?_
  refine h_cv rfl rfl rfl tq rfl rfl (x_hasRange tq (nI d) (nI m)) ?_
  refine h_t (y := 1) (by rw [rng_n (by omega) (by omega)]; rfl) ?_
  refine h_n (st2 := [_]) rfl ?_
  iterate 2 refine h_s rfl ?_
  refine h_gf rfl rfl rfl hq rfl ?_
  iterate 2 refine h_s rfl ?_
  refine h_gf rfl rfl rfl tq rfl ?_
  iterate 2 refine h_s rfl ?_
  refine h_cpy rfl rfl hx tx (sp := b) (dp := d) (m := m) (by omega) (by omega) (by omega) (by omega) rfl (fun w1 zs e1 zl g1 f1 => ?_)
  refine h_s rfl ?_
  obtain ⟨la, lb, lc⟩ := XS.2.2.2
  refine h_ri rfl rfl ⟨rfl, R0.sheet (XS.cell ht4 ((f1 _ (by omega)).trans tq) e1 (zl.trans tl) (fun i _ h6 => f1 i h6) (fun j => ?_) (fun j => ?_) (fun j hj => ?_) (fun h j hh hne hj => ?_) la lb ((cpy_l ..).trans lc)) (fun i hi => f1 i (by omega)), fun i hi => f1 i (by omega)⟩
  · by_cases e : j = t
    · rw [if_pos e, e]
    · rw [if_neg e]
  · by_cases e : j = t
    · rw [if_pos e, e, hy]
    · rw [if_neg e]
  · rw [g1 j (by omega), cpy_D _ _ _ _ (by omega)]
    by_cases e : d ≤ j ∧ j < d + m
    · rw [if_pos e, if_pos (by omega), hg _ (by omega)]
      congr 1
      omega
    · rw [if_neg e, if_neg (by omega), tg j hj]
  · rw [cpy_D _ _ _ _ (by omega), if_neg (by omega)]
end XCP
