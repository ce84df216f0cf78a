/-! TAPE: feed, wipe, in both -/
def byteI (x : Int32) (k : Nat) : Int32 := (x >>> (nI (8 * k) &&& 31)) &&& 255
/-- the tape after i of m bytes -/
def fedT (tp : List Int32) (tn : Nat) (x : Int32) (m : Nat) : Nat → List Int32
  | 0 => tp
  | i + 1 => (fedT tp tn x m i).set (tn + i) (byteI x (m - 1 - i))
theorem fed_l (tp : List Int32) (tn : Nat) (x : Int32) (m : Nat) : ∀ i, (fedT tp tn x m i).length = tp.length
  | 0 => rfl
  | i + 1 => by rw [fedT, List.length_set]; exact fed_l tp tn x m i
def in14 (a : Int32) : Bool := decide (1 ≤ a.toInt ∧ a.toInt ≤ 4)
theorem in14_n {m : Nat} (h1 : 1 ≤ m) (h4 : m ≤ 4) : in14 (nI m) = true := by
  unfold in14
  rw [nI_toInt (by omega)]
  exact decide_eq_true (by omega)
theorem byte_eq {x : Int32} {k : Nat} (hk : k < 4) : ((x.toUInt32 >>> ((nI (8 * k)).toUInt32 &&& Int32.toUInt32 31)).toInt32) &&& 255 = byteI x k := by
  unfold byteI
  apply b_ext
  intro i hi
  rw [b_and, b_and, b_255, b_ushr (8 * k) (by omega), b_sshr (8 * k) (by omega) x hi]
  by_cases h : i < 8
  · rw [if_pos (by omega)]
  · simp [h]
theorem dn_1 {m i : Nat} (h : i < m) : nI (m - i) + (-1) = nI (m - 1 - i) := by rw [show m - i = (m - 1 - i) + 1 by omega]; exact pk_m1 _
theorem dn_2 {m i : Nat} (h : i < m) : nI (m - 1 - i) + Int32.ofInt (-1) = nI (m - (i + 1)) + (-1) := by rw [show m - 1 - i = m - (i + 1) by omega]; rfl
theorem dn_3 {m : Nat} (h : 1 ≤ m) : nI m - 1 = nI (m - 0) + (-1) := by
  rw [show m - 0 = (m - 1) + 1 by omega, pk_m1, show nI m = nI ((m - 1) + 1) by rw [show m - 1 + 1 = m by omega], nI_pred]
theorem feed_size {tn m : Nat} : nI tn + nI m = nI (tn + m) := nI_add tn m
section MO
variable {X : List Int32} {w w1 : ab_W} {s : List Int32} {n : Nat} {st ks : List Int32} {kp : Bool} {tp : List Int32} {tn : Nat} {bo so nu : List Int32}
theorem m_in14 (x : Int32) : ab_M X kX6_in [.long x.toInt64, .long 1, .long 4] w (some (.int (z01 (in14 x)))) w := by
  unfold in14
  by_cases h : 1 ≤ x.toInt ∧ x.toInt ≤ 4
  · rw [decide_eq_true h]
    exact m_in1 (lo := 1) (hi := 4) rfl rfl h
  · rw [decide_eq_false h]
    exact m_in0 (lo := 1) (hi := 4) rfl rfl h
theorem MW.tape (R : MW w s n st ks kp tp tn bo so nu) {w1 : ab_W} {fr1 to1 vl1 : Int32} {wr1 : Bool} {tp1 : List Int32} {tn1 : Nat} (h1 : w1[54]? = some (.inl (6, mObj kp tn1 fr1 to1 vl1 wr1))) (h2 : w1[60]? = some (.inr tp1)) (hl : tp1.length = 120) (ht1 : tn1 ≤ 120) (hf : ∀ i, i ≠ 54 → i ≠ 60 → w1[i]? = w[i]?) : MW w1 s n st ks kp tp1 tn1 bo so nu := by
  obtain ⟨oth, nz, mv, fr, to, vl, wr, a54, a55, a56, a57, a58, a59, a60, a61, a62, a63, a64, l, h0, hn, ht⟩ := R
  exact ⟨oth, nz, mv, fr1, to1, vl1, wr1, h1, by rw [hf _ (by decide) (by decide)]; exact a55, by rw [hf _ (by decide) (by decide)]; exact a56, by rw [hf _ (by decide) (by decide)]; exact a57, by rw [hf _ (by decide) (by decide)]; exact a58, by rw [hf _ (by decide) (by decide)]; exact a59, h2, by rw [hf _ (by decide) (by decide)]; exact a61, by rw [hf _ (by decide) (by decide)]; exact a62, by rw [hf _ (by decide) (by decide)]; exact a63, by rw [hf _ (by decide) (by decide)]; exact a64, ⟨l.1, l.2.1, l.2.2.1, l.2.2.2.1, l.2.2.2.2.1, hl, l.2.2.2.2.2.2⟩, h0, hn, ht1⟩
set_option maxRecDepth 100000 in
set_option maxHeartbeats 4000000 in
theorem m_feed_b (R : MW w s n st ks kp tp tn bo so nu) (a b : Int32) (hb : (in14 b) = false) : ab_Q X kX6_feed [.ref 54, .int a, .int b] w (MP w (-1000001) s n (bump st 0) ks kp tp tn bo so nu) := by
  have M := R.ms
  have R0 := R
  have RC := R0
  obtain ⟨oth, nz, mv, fr, to, vl, wr, a54, a55, a56, a57, a58, a59, a60, a61, a62, a63, a64, l, h0, hn, ht⟩ := R
  show ab_H X kX6_feed 0 [some (.ref 54), some (.int a), some (.int b), none] [] w _
  iterate 4 refine h_s rfl ?_
  refine h_c rfl (m_in14 b) ?_
  refine h_n (st2 := [_]) rfl ?_
  refine hz_ne rfl rfl (fun h9 => ?_) (fun h9 => ?_)
  · exact absurd hb (by simp [h9])
  · refine h_s rfl ?_
    refine h_k (y := (-1000001)) rfl rfl ?_
    refine hq_v rfl rfl rfl a54 rfl rfl (m_finds RC 0 (by omega) _ (by decide)) (fun v9 w9 q9 => ?_)
    obtain ⟨rfl, q2, q3⟩ := q9
    refine h_n (st2 := [_]) rfl ?_
    exact h_ri rfl rfl ⟨rfl, q2, q3⟩
set_option maxRecDepth 100000 in
set_option maxHeartbeats 4000000 in
theorem m_feed_f (R : MW w s n st ks kp tp tn bo so nu) (x : Int32) (m : Nat) (h1 : 1 ≤ m) (h4 : m ≤ 4) (hf : 120 < tn + m) : ab_Q X kX6_feed [.ref 54, .int x, .int (nI m)] w (MP w (-1000002) s n (bump st 1) ks kp tp tn bo so nu) := by
  have M := R.ms
  have R0 := R
  have RC := R0
  obtain ⟨oth, nz, mv, fr, to, vl, wr, a54, a55, a56, a57, a58, a59, a60, a61, a62, a63, a64, l, h0, hn, ht⟩ := R
  show ab_H X kX6_feed 0 [some (.ref 54), some (.int x), some (.int (nI m)), none] [] w _
  iterate 4 refine h_s rfl ?_
  refine h_c rfl (m_in14 (nI m)) ?_
  refine h_t (y := 1) (by rw [in14_n h1 h4]; rfl) ?_
  refine h_n (st2 := [_]) rfl ?_
  iterate 2 refine h_s rfl ?_
  refine h_gf rfl rfl rfl a54 rfl ?_
  refine h_s rfl ?_
  refine h_Nadd rfl rfl rfl ?_
  refine h_k (y := 120) rfl rfl ?_
  refine hN_le (b := 120) rfl rfl rfl rfl (by omega) (by omega) (fun h27 => absurd h27 (by omega)) (fun h27 => ?_)
  refine h_s rfl ?_
  refine h_k (y := (-1000002)) rfl rfl ?_
  refine hq_v rfl rfl rfl a54 rfl rfl (m_finds RC 1 (by omega) _ (by decide)) (fun v9 w9 q9 => ?_)
  obtain ⟨rfl, q2, q3⟩ := q9
  refine h_n (st2 := [_]) rfl ?_
  exact h_ri rfl rfl ⟨rfl, q2, q3⟩
set_option maxRecDepth 100000 in
set_option maxHeartbeats 4000000 in
theorem m_feed_k (R : MW w s n st ks kp tp tn bo so nu) (x : Int32) (m : Nat) (h1 : 1 ≤ m) (h4 : m ≤ 4) (hf : tn + m ≤ 120) : ab_Q X kX6_feed [.ref 54, .int x, .int (nI m)] w (MP w (nI (tn + m)) s n st ks kp (fedT tp tn x m m) (tn + m) bo so nu) := by
  have M := R.ms
  have R0 := R
  have RC := R0
  obtain ⟨oth, nz, mv, fr, to, vl, wr, a54, a55, a56, a57, a58, a59, a60, a61, a62, a63, a64, l, h0, hn, ht⟩ := R
  show ab_H X kX6_feed 0 [some (.ref 54), some (.int x), some (.int (nI m)), none] [] w _
  iterate 4 refine h_s rfl ?_
  refine h_c rfl (m_in14 (nI m)) ?_
  refine h_t (y := 1) (by rw [in14_n h1 h4]; rfl) ?_
  refine h_n (st2 := [_]) rfl ?_
  iterate 2 refine h_s rfl ?_
  refine h_gf rfl rfl rfl a54 rfl ?_
  refine h_s rfl ?_
  refine h_Nadd rfl rfl rfl ?_
  refine h_k (y := 120) rfl rfl ?_
  refine hN_le (b := 120) rfl rfl rfl rfl (by omega) (by omega) (fun h27 => ?_) (fun h27 => absurd (by omega) h27)
  refine h_s rfl ?_
  refine h_k (y := 1) rfl rfl ?_
  refine h_s rfl ?_
  refine h_t (dn_3 h1) ?_
  refine h_s rfl ?_
  refine h_loop0 (m + 1) (fun i ls v => i ≤ m ∧ ls = [some (.ref 54), some (.int x), some (.int (nI m)), some (.int (nI (m - i) + (-1)))] ∧ (∀ j, j ≠ 54 → j ≠ 60 → v[j]? = w[j]?) ∧ v[54]? = some (.inl (6, mObj kp (tn + i) fr to vl wr)) ∧ v[60]? = some (.inr (fedT tp tn x m i))) ⟨by omega, rfl, fun _ _ _ => rfl, a54, a60⟩ (fun i ls v hi hJ ih => ?_) (fun ls v hJ => absurd hJ.1 (by omega))
  obtain ⟨hi4, rfl, F, a54, a60⟩ := hJ
  have lt : (fedT tp tn x m i).length = 120 := (fed_l ..).trans l.2.2.2.2.2.1
  by_cases e : i = m
  · subst e
    rw [Nat.sub_self]
    refine h_s rfl ?_
    refine h1_lt rfl rfl (fun h42 => ?_) (fun h42 => absurd (by decide) h42)
    refine h_s rfl ?_
    refine h_gf rfl rfl rfl a54 rfl ?_
    exact h_ri rfl rfl ⟨rfl, R0.tape a54 a60 lt hf F, fun j hj => F j (by omega) (by omega)⟩
  · have e3 := dn_2 (m := m) (i := i) (by omega)
    rw [dn_1 (by omega)]
    refine h_s rfl ?_
    refine hM_lt rfl rfl rfl rfl (by omega) (fun h42 => absurd h42 (by omega)) (fun h42 => ?_)
    refine h_s rfl ?_
    refine h_gf rfl rfl rfl a54 rfl ?_
    refine h_s rfl ?_
    refine h_gf rfl rfl rfl a54 rfl ?_
    refine h_s rfl ?_
    refine h_k (y := 8) rfl rfl ?_
    refine h_s rfl ?_
    refine h_Nmul (a := 8) rfl rfl rfl ?_
    refine h_s rfl ?_
    refine h_k (y := 255) rfl rfl ?_
    refine h_s rfl ?_
    refine h_is (tn + i) rfl a60 (by omega) rfl (by omega) (fun w2 e2 f2 => ?_)
    have a54 := (f2 54 (by decide)).trans a54
    iterate 2 refine h_s rfl ?_
    refine h_gf rfl rfl rfl a54 rfl ?_
    refine h_k (y := 1) rfl rfl ?_
    refine h_Nadd (b := 1) rfl rfl rfl ?_
    refine h_pf rfl rfl a54 rfl (fun w3 e3_ f3 => ?_)
    iterate 2 refine h_s rfl ?_
    refine ih _ _ ⟨by omega, by rw [← e3]; rfl, fun j h5 h6 => (f3 j h5).trans ((f2 j h6).trans (F j h5 h6)), e3_, (f3 60 (by decide)).trans e2⟩
end MO
section XP
variable {X : List Int32} {w w1 : ab_W} {r : Nat} {s : List Int32} {n : Nat} {st ks : List Int32} {kp : Bool} {tp : List Int32} {tn : Nat} {bo so nu : List Int32}
theorem XW.tape (R : XW w s n st ks kp tp tn bo so nu) {tp1 : List Int32} {tn1 : Nat} (T : TapeX w1 tp1 tn1) (F : ∀ i, (i < 39 ∨ 44 ≤ i) → w1[i]? = w[i]?) : XW w1 s n st ks kp tp1 tn1 bo so nu := by
  obtain ⟨x0, XR, ⟨sd, nd, XD⟩, ⟨sk, nk, XK, hkp⟩, XPl, XT, XS, x45, xl⟩ := R
  exact ⟨(F 0 (by omega)).trans x0, XR.fr (fun i _ _ => F i (by omega)), ⟨sd, nd, XD.fr (fun i _ _ => F i (by omega))⟩, ⟨sk, nk, XK.fr (fun i _ _ => F i (by omega)), hkp⟩, XPl.fr (fun i _ _ => F i (by omega)), T, XS.fr (fun i _ _ _ => F i (by omega)), (F 45 (by omega)).trans x45, xl⟩
set_option maxRecDepth 100000 in
set_option maxHeartbeats 4000000 in
theorem x_add {tk hr : Int32} (t0 : w[39]? = some (.inl (4, [.ref 40, .int (nI tn), .ref 41, .ref 42, .ref 43, .int tk, .int hr]))) (t1 : w[40]? = some (.inr tp)) (tl : tp.length = 120) (hlt : tn < 120) (x : Int32) : ab_Q X kX4_add [.ref 39, .int x] w (fun v w1 => v = none ∧ w1[39]? = some (.inl (4, [.ref 40, .int (nI (tn + 1)), .ref 41, .ref 42, .ref 43, .int tk, .int hr])) ∧ w1[40]? = some (.inr (tp.set tn x)) ∧ ∀ i, i ≠ 39 → i ≠ 40 → w1[i]? = w[i]?) := by
  show ab_H X kX4_add 0 [some (.ref 39), some (.int x)] [] w _
  refine h_s rfl ?_
  refine h_gf rfl rfl rfl t0 rfl ?_
  refine h_k (y := 120) rfl rfl ?_
  refine hN_ge (b := 120) rfl rfl rfl rfl (by omega) (by omega) (fun h6 => absurd h6 (by omega)) (fun h6 => ?_)
  refine h_s rfl ?_
  refine h_gf rfl rfl rfl t0 rfl ?_
  refine h_s rfl ?_
  refine h_gf rfl rfl rfl t0 rfl ?_
  refine h_s rfl ?_
  refine hq_c rfl (x_put t1 (by omega) (j := tn) (by omega) x) (fun v1 w1 q1 => ?_)
  obtain ⟨rfl, e1, f1⟩ := q1
  have t0 := (f1 39 (by decide)).trans t0
  refine h_n (st2 := []) rfl ?_
  iterate 2 refine h_s rfl ?_
  refine h_gf rfl rfl rfl t0 rfl ?_
  refine h_k (y := 1) rfl rfl ?_
  refine h_Nadd (b := 1) rfl rfl rfl ?_
  refine h_pf rfl rfl t0 rfl (fun w2 e2 f2 => ?_)
  exact h_r rfl ⟨rfl, e2, (f2 40 (by decide)).trans e1, fun i h5 h6 => (f2 i h5).trans (f1 i h6)⟩
set_option maxRecDepth 100000 in
set_option maxHeartbeats 4000000 in
theorem x_feed_b (R : XW w s n st ks kp tp tn bo so nu) (a b : Int32) (hb : (in14 b) = false)  : ab_Q X kX5_feed [.ref 0, .int a, .int b] w (XP w (-1000001) s n (bump st 0) ks kp tp tn bo so nu) := by
  have R0 := R
  obtain ⟨x0, XR, ⟨sd, nd, XD⟩, ⟨sk, nk, XK, hkp⟩, XPl, XT, XS, x45, xl⟩ := R
  have r0 := XR.1
  have p0 := XPl.1
  have d0 := XD.1
  have hn : n ≤ 8 := XR.2.2.2.2.2.2.2
  have RC := R0
  show ab_H X kX5_feed 0 [some (.ref 0), some (.int a), some (.int b), none] [] w _
  refine h_s rfl ?_
  refine h_k (y := 1) rfl rfl ?_
  refine h2_lt rfl rfl (fun h2 => ?_) (fun h2 => ?_)
  · refine h_s rfl ?_
    refine h_k (y := (-1000001)) rfl rfl ?_
    refine hq_v rfl rfl rfl x0 rfl rfl (x_found RC 0 (by omega) _ (by decide)) (fun v9 w9 q9 => ?_)
    obtain ⟨rfl, q2, q3⟩ := q9
    refine h_n (st2 := [_]) rfl ?_
    exact h_ri rfl rfl ⟨rfl, q2, q3⟩
  · refine h_s rfl ?_
    refine h_k (y := 4) rfl rfl ?_
    refine h2_le rfl rfl (fun h7 => ?_) (fun h7 => ?_)
    · exact absurd hb (by rw [show in14 b = true from decide_eq_true (by rw [lt_iff] at h2; rw [le_iff] at h7; exact ⟨Int.not_lt.mp h2, h7⟩)]; decide)
    · refine h_s rfl ?_
      refine h_k (y := (-1000001)) rfl rfl ?_
      refine hq_v rfl rfl rfl x0 rfl rfl (x_found RC 0 (by omega) _ (by decide)) (fun v9 w9 q9 => ?_)
      obtain ⟨rfl, q2, q3⟩ := q9
      refine h_n (st2 := [_]) rfl ?_
      exact h_ri rfl rfl ⟨rfl, q2, q3⟩
set_option maxRecDepth 100000 in
set_option maxHeartbeats 4000000 in
theorem x_free {tk hr : Int32} (t0 : w[39]? = some (.inl (4, [.ref 40, .int (nI tn), .ref 41, .ref 42, .ref 43, .int tk, .int hr]))) (hle : tn ≤ 120) : ab_M X kX4_free [.ref 39] w (some (.int (nI (120 - tn)))) w := by
  show ab_G X kX4_free 0 [some (.ref 39)] [] w _ _
  refine ab_k (y := 120) rfl rfl ?_
  refine ab_s rfl ?_
  refine ab_gf rfl rfl rfl t0 rfl ?_
  refine ab_Nsub (a := 120) rfl rfl rfl (by omega) ?_
  exact ab_ri rfl rfl
set_option maxRecDepth 100000 in
set_option maxHeartbeats 4000000 in
theorem x_feed_f (R : XW w s n st ks kp tp tn bo so nu) (x : Int32) (m : Nat) (h1 : 1 ≤ m) (h4 : m ≤ 4) (hf : 120 < tn + m) : ab_Q X kX5_feed [.ref 0, .int x, .int (nI m)] w (XP w (-1000002) s n (bump st 1) ks kp tp tn bo so nu) := by
  have R0 := R
  obtain ⟨x0, XR, ⟨sd, nd, XD⟩, ⟨sk, nk, XK, hkp⟩, XPl, XT, XS, x45, xl⟩ := R
  have r0 := XR.1
  have p0 := XPl.1
  have d0 := XD.1
  have hn : n ≤ 8 := XR.2.2.2.2.2.2.2
  have RC := R0
  obtain ⟨⟨tk, hr, t0⟩, t1, ⟨tl, htn⟩, t2, t3, t4⟩ := id XT
  show ab_H X kX5_feed 0 [some (.ref 0), some (.int x), some (.int (nI m)), none] [] w _
  refine h_s rfl ?_
  refine h_k (y := 1) rfl rfl ?_
  refine hN_lt (b := 1) rfl rfl rfl rfl (by omega) (by omega) (fun h2 => absurd h2 (by omega)) (fun h2 => ?_)
  refine h_s rfl ?_
  refine h_k (y := 4) rfl rfl ?_
  refine hN_le (b := 4) rfl rfl rfl rfl (by omega) (by omega) (fun h7 => ?_) (fun h7 => absurd (by omega) h7)
  iterate 2 refine h_s rfl ?_
  refine h_gf rfl rfl rfl x0 rfl ?_
  refine h_cv rfl rfl rfl t0 rfl rfl (x_free t0 htn) ?_
  refine h_n (st2 := [_, _]) rfl ?_
  refine hN_le rfl rfl rfl rfl (by omega) (by omega) (fun h25 => absurd h25 (by omega)) (fun h25 => ?_)
  refine h_s rfl ?_
  refine h_k (y := (-1000002)) rfl rfl ?_
  refine hq_v rfl rfl rfl x0 rfl rfl (x_found RC 1 (by omega) _ (by decide)) (fun v9 w9 q9 => ?_)
  obtain ⟨rfl, q2, q3⟩ := q9
  refine h_n (st2 := [_]) rfl ?_
  exact h_ri rfl rfl ⟨rfl, q2, q3⟩
set_option maxRecDepth 100000 in
set_option maxHeartbeats 4000000 in
theorem x_feed_k (R : XW w s n st ks kp tp tn bo so nu) (x : Int32) (m : Nat) (h1 : 1 ≤ m) (h4 : m ≤ 4) (hf : tn + m ≤ 120) : ab_Q X kX5_feed [.ref 0, .int x, .int (nI m)] w (XP w (nI (tn + m)) s n st ks kp (fedT tp tn x m m) (tn + m) bo so nu) := by
  have R0 := R
  obtain ⟨x0, XR, ⟨sd, nd, XD⟩, ⟨sk, nk, XK, hkp⟩, XPl, XT, XS, x45, xl⟩ := R
  have r0 := XR.1
  have p0 := XPl.1
  have d0 := XD.1
  have hn : n ≤ 8 := XR.2.2.2.2.2.2.2
  have RC := R0
  obtain ⟨⟨tk, hr, t0⟩, t1, ⟨tl, htn⟩, t2, t3, t4⟩ := id XT
  show ab_H X kX5_feed 0 [some (.ref 0), some (.int x), some (.int (nI m)), none] [] w _
  refine h_s rfl ?_
  refine h_k (y := 1) rfl rfl ?_
  refine hN_lt (b := 1) rfl rfl rfl rfl (by omega) (by omega) (fun h2 => absurd h2 (by omega)) (fun h2 => ?_)
  refine h_s rfl ?_
  refine h_k (y := 4) rfl rfl ?_
  refine hN_le (b := 4) rfl rfl rfl rfl (by omega) (by omega) (fun h7 => ?_) (fun h7 => absurd (by omega) h7)
  iterate 2 refine h_s rfl ?_
  refine h_gf rfl rfl rfl x0 rfl ?_
  refine h_cv rfl rfl rfl t0 rfl rfl (x_free t0 htn) ?_
  refine h_n (st2 := [_, _]) rfl ?_
  refine hN_le rfl rfl rfl rfl (by omega) (by omega) (fun h25 => ?_) (fun h25 => absurd (by omega) h25)
  refine h_s rfl ?_
  refine h_k (y := 1) rfl rfl ?_
  refine h_s rfl ?_
  refine h_t (dn_3 h1) ?_
  refine h_s rfl ?_
  refine h_loop0 (m + 1) (fun i ls v => i ≤ m ∧ ls = [some (.ref 0), some (.int x), some (.int (nI m)), some (.int (nI (m - i) + (-1)))] ∧ (∀ j, j ≠ 39 → j ≠ 40 → v[j]? = w[j]?) ∧ v[39]? = some (.inl (4, [.ref 40, .int (nI (tn + i)), .ref 41, .ref 42, .ref 43, .int tk, .int hr])) ∧ v[40]? = some (.inr (fedT tp tn x m i))) ⟨by omega, rfl, fun _ _ _ => rfl, t0, t1⟩ (fun i ls v hi hJ ih => ?_) (fun ls v hJ => absurd hJ.1 (by omega))
  obtain ⟨hi4, rfl, F, t0, t1⟩ := hJ
  have lt : (fedT tp tn x m i).length = 120 := (fed_l ..).trans tl
  have x0 := (F 0 (by decide) (by decide)).trans x0
  by_cases e : i = m
  · subst e
    rw [Nat.sub_self]
    refine h_s rfl ?_
    refine h1_lt rfl rfl (fun h40 => ?_) (fun h40 => absurd (by decide) h40)
    refine h_s rfl ?_
    refine h_gf rfl rfl rfl x0 rfl ?_
    refine h_gf rfl rfl rfl t0 rfl ?_
    exact h_ri rfl rfl ⟨rfl, R0.tape ⟨⟨tk, hr, t0⟩, t1, ⟨lt, hf⟩, by rw [F 41 (by decide) (by decide)]; exact t2, by rw [F 42 (by decide) (by decide)]; exact t3, by rw [F 43 (by decide) (by decide)]; exact t4⟩ (fun i hi => F i (by omega) (by omega)), fun j hj => F j (by omega) (by omega)⟩
  · have e3 := dn_2 (m := m) (i := i) (by omega)
    rw [dn_1 (by omega)]
    refine h_s rfl ?_
    refine hM_lt rfl rfl rfl rfl (by omega) (fun h40 => absurd h40 (by omega)) (fun h40 => ?_)
    refine h_s rfl ?_
    refine h_gf rfl rfl rfl x0 rfl ?_
    refine h_s rfl ?_
    refine h_k (y := 8) rfl rfl ?_
    refine h_s rfl ?_
    refine h_Nmul (a := 8) rfl rfl rfl ?_
    refine h_s rfl ?_
    refine h_k (y := 255) rfl rfl ?_
    refine h_s rfl ?_
    refine h_t (byte_eq (k := m - 1 - i) (by omega)) ?_
    refine hq_v rfl rfl rfl t0 rfl rfl (x_add t0 t1 lt (by omega) _) (fun v2 w2 q2 => ?_)
    obtain ⟨rfl, e4, e5, f2⟩ := q2
    refine h_n (st2 := []) rfl ?_
    iterate 2 refine h_s rfl ?_
    refine ih _ _ ⟨by omega, by rw [← e3]; rfl, fun j h5 h6 => (f2 j h5 h6).trans (F j h5 h6), e4, e5⟩
set_option maxRecDepth 100000 in
set_option maxHeartbeats 4000000 in
theorem x_wipe_k (R : XW w s n st ks kp tp tn bo so nu)  : ab_Q X kX5_wipe [.ref 0] w (XP w (nI tn) s n st ks kp tp 0 bo so nu) := by
  have R0 := R
  obtain ⟨x0, XR, ⟨sd, nd, XD⟩, ⟨sk, nk, XK, hkp⟩, XPl, XT, XS, x45, xl⟩ := R
  have r0 := XR.1
  have p0 := XPl.1
  have d0 := XD.1
  have hn : n ≤ 8 := XR.2.2.2.2.2.2.2
  have RC := R0
  obtain ⟨⟨tk, hr, t0⟩, t1, ⟨tl, htn⟩, t2, t3, t4⟩ := id XT
  show ab_H X kX5_wipe 0 [some (.ref 0), none] [] w _
  refine h_s rfl ?_
  refine h_gf rfl rfl rfl x0 rfl ?_
  refine h_gf rfl rfl rfl t0 rfl ?_
  iterate 2 refine h_s rfl ?_
  refine h_gf rfl rfl rfl x0 rfl ?_
  refine h_k (y := 0) rfl rfl ?_
  refine h_pf rfl rfl t0 rfl (fun w2 e2 f2 => ?_)
  refine h_s rfl ?_
  exact h_ri rfl rfl ⟨rfl, R0.tape ⟨⟨tk, hr, e2⟩, (f2 40 (by decide)).trans t1, ⟨tl, by omega⟩, by rw [f2 41 (by decide)]; exact t2, by rw [f2 42 (by decide)]; exact t3, by rw [f2 43 (by decide)]; exact t4⟩ (fun i hi => f2 i (by omega)), fun j hj => f2 j (by omega)⟩
end XP
