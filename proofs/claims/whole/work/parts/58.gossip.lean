/-! GOSSIP, in both -/
def lcgI (z : Int32) : Int32 := z * 1103515245 + 12345
def drN (z : Int32) (n : Nat) : Nat := z.toBitVec.toNat / 2 ^ 8 % n
/-- one piece of gossip -/
def gosT (s : List Int32) (n : Nat) : List Int32 := (s.set 1 (lcgI (lcgI (s.getD 1 0)))).set (2 + 8 * drN (lcgI (lcgI (s.getD 1 0))) n + 2) (fld s (drN (lcgI (lcgI (s.getD 1 0))) n) 2 ||| (1 : Int32) <<< (nI (drN (lcgI (s.getD 1 0)) n) &&& 31))
def gosS (s : List Int32) (n : Nat) : Nat → List Int32
  | 0 => s
  | i + 1 => gosT (gosS s n i) n
theorem gosT_l (s : List Int32) (n : Nat) : (gosT s n).length = s.length := by unfold gosT; rw [List.length_set, List.length_set]
theorem gos_l (s : List Int32) (n : Nat) : ∀ i, (gosS s n i).length = s.length
  | 0 => rfl
  | i + 1 => by rw [gosS, gosT_l, gos_l s n i]
theorem gosT_0 (s : List Int32) (n : Nat) : (gosT s n).getD 0 0 = s.getD 0 0 := by unfold gosT; rw [gD_ne (by omega), gD_ne (by omega)]
theorem gos_0 (s : List Int32) (n : Nat) : ∀ i, (gosS s n i).getD 0 0 = s.getD 0 0
  | 0 => rfl
  | i + 1 => by rw [gosS, gosT_0, gos_0 s n i]
theorem drN_lt {z : Int32} {n : Nat} (hn : 0 < n) : drN z n < n := Nat.mod_lt _ hn
theorem inn_or {x : Int32} {f : Nat} (hx : inn x 8) (hf : f < 8) : inn (x ||| (1 : Int32) <<< (nI f &&& 31)) 8 := by
  intro i h1 h2
  rw [b_or, hx i h1 h2, b_sh (by omega) h2, decide_eq_false (by omega)]
  rfl
theorem gosT_SI {s : List Int32} {n : Nat} (I : SI s n) (hl : s.length = 90) (hn : n ≤ 8) (h0 : 0 < n) : SI (gosT s n) n := by
  have h1 := drN_lt (z := lcgI (s.getD 1 0)) h0
  have h2 := drN_lt (z := lcgI (lcgI (s.getD 1 0))) h0
  exact SI_leave (SI_seed I hn _) (by rw [List.length_set]; exact hl) (by omega) (inn_or (I.1 _ h2).2.2.1 (by omega))
theorem gos_SI {s : List Int32} {n : Nat} (I : SI s n) (hl : s.length = 90) (hn : n ≤ 8) (h0 : 0 < n) : ∀ i, SI (gosS s n i) n
  | 0 => I
  | i + 1 => gosT_SI (gos_SI I hl hn h0 i) ((gos_l s n i).trans hl) hn h0
def in12 (a : Int32) : Bool := decide (1 ≤ a.toInt ∧ a.toInt ≤ 12)
theorem in12_n {m : Nat} (h1 : 1 ≤ m) (h4 : m ≤ 12) : in12 (nI m) = true := by
  unfold in12
  rw [nI_toInt (by omega)]
  exact decide_eq_true (by omega)
theorem ush8 (y : Int32) : (y.toUInt32 >>> ((8 : Int32).toUInt32 &&& Int32.toUInt32 31)).toInt32 = nI (y.toBitVec.toNat / 2 ^ 8) := by
  have h1 := pk_ushr y 8 8 rfl
  apply Int32.toBitVec_inj.mp
  apply BitVec.eq_of_toNat_eq
  rw [h1, pk_tn (by have := y.toBitVec.isLt; omega)]
theorem drN_e {y : Int32} {n : Nat} (h0 : 0 < n) (hn : n ≤ 8) : nI (y.toBitVec.toNat / 2 ^ 8) - nI (y.toBitVec.toNat / 2 ^ 8) / nI n * nI n = nI (drN y n) :=
  pk_rem (by have := y.toBitVec.isLt; omega) h0 (by omega)
theorem nam_one {s : List Int32} {n h g : Nat} (hh : h < n) : namB s n (fun h' => decide (h' = h)) g = (bt (fld s h 2) g && !decide (g = h)) := by
  rw [Bool.eq_iff_iff]
  unfold namB
  rw [anyR_iff]
  simp only [Bool.and_eq_true, decide_eq_true_eq]
  constructor
  · rintro ⟨r, _, rfl, q⟩
    exact q
  · intro q
    exact ⟨h, hh, rfl, q⟩
theorem set_set1 (s : List Int32) (x y : Int32) : (s.set 1 x).set 1 y = s.set 1 y := List.set_set ..
section GM
variable {X : List Int32} {w w1 : ab_W} {s : List Int32} {n : Nat} {st ks : List Int32} {kp : Bool} {tp : List Int32} {tn : Nat} {bo so nu : List Int32}
theorem m_in12 (x : Int32) : ab_M X kX6_in [.long x.toInt64, .long 1, .long 12] w (some (.int (z01 (in12 x)))) w := by
  unfold in12
  by_cases h : 1 ≤ x.toInt ∧ x.toInt ≤ 12
  · rw [decide_eq_true h]
    exact m_in1 (lo := 1) (hi := 12) rfl rfl h
  · rw [decide_eq_false h]
    exact m_in0 (lo := 1) (hi := 12) rfl rfl h
set_option maxRecDepth 100000 in
set_option maxHeartbeats 4000000 in
theorem m_draw (R : MW w s n st ks kp tp tn bo so nu) : ab_Q X kX6_draw [.ref 54] w (fun v w1 => v = some (.int (nI ((lcgI (s.getD 1 0)).toBitVec.toNat / 2 ^ 8))) ∧ MW w1 (s.set 1 (lcgI (s.getD 1 0))) n st ks kp tp tn bo so nu ∧ w1[55]? = some (.inr (s.set 1 (lcgI (s.getD 1 0)))) ∧ ∀ i, i ≠ 55 → w1[i]? = w[i]?) := by
  have M := R.ms
  have R0 := R
  have RC := R0
  obtain ⟨oth, nz, mv, fr, to, vl, wr, a54, a55, a56, a57, a58, a59, a60, a61, a62, a63, a64, l, h0, hn, ht⟩ := R
  show ab_H X kX6_draw 0 [some (.ref 54)] [] w _
  refine h_s rfl ?_
  refine h_gf rfl rfl rfl a54 rfl ?_
  refine h_k (y := 1) rfl rfl ?_
  refine h_s rfl ?_
  refine h_gf rfl rfl rfl a54 rfl ?_
  refine h_k (y := 1) rfl rfl ?_
  refine h_ia (1) rfl a55 (by omega) rfl (by omega) ?_
  refine h_k (y := 1103515245) rfl rfl ?_
  refine h_s rfl ?_
  refine h_k (y := 12345) rfl rfl ?_
  refine h_s rfl ?_
  refine h_is 1 rfl a55 (by omega) rfl (by omega) (fun w1 e1 f1 => ?_)
  have a54 := (f1 54 (by decide)).trans a54
  have a55 := e1
  refine h_s rfl ?_
  refine h_gf rfl rfl rfl a54 rfl ?_
  refine h_k (y := 1) rfl rfl ?_
  refine h_ia 1 rfl a55 (by rw [List.length_set]; omega) rfl (by rw [List.length_set]; omega) ?_
  refine h_t (gD_eq (by omega)) ?_
  refine h_k (y := 8) rfl rfl ?_
  refine h_s rfl ?_
  refine h_t (ush8 _) ?_
  exact h_ri rfl rfl ⟨rfl, R0.sj e1 (by decide) f1, e1, f1⟩
set_option maxRecDepth 100000 in
set_option maxHeartbeats 4000000 in
theorem m_gossip_b (R : MW w s n st ks kp tp tn bo so nu) (a : Int32) (hb : (in12 a) = false) : ab_Q X kX6_gossip [.ref 54, .int a] w (MP w (-1000001) s n (bump st 0) ks kp tp tn bo so nu) := by
  have M := R.ms
  have R0 := R
  have RC := R0
  obtain ⟨oth, nz, mv, fr, to, vl, wr, a54, a55, a56, a57, a58, a59, a60, a61, a62, a63, a64, l, h0, hn, ht⟩ := R
  show ab_H X kX6_gossip 0 [some (.ref 54), some (.int a), none, none, none] [] w _
  iterate 4 refine h_s rfl ?_
  refine h_c rfl (m_in12 a) ?_
  refine h_n (st2 := [_]) rfl ?_
  refine hz_ne rfl rfl (fun h9 => ?_) (fun h9 => ?_)
  · exact absurd hb (by simp [h9])
  · refine h_s rfl ?_
    refine h_k (y := (-1000001)) rfl rfl ?_
    refine hq_v rfl rfl rfl a54 rfl rfl (m_finds RC 0 (by omega) _ (by decide)) (fun v9 w9 q9 => ?_)
    obtain ⟨rfl, q2, q3⟩ := q9
    refine h_n (st2 := [_]) rfl ?_
    exact h_ri rfl rfl ⟨rfl, q2, q3⟩
set_option maxRecDepth 100000 in
set_option maxHeartbeats 4000000 in
theorem m_gossip_z (R : MW w s n st ks kp tp tn bo so nu) (m : Nat) (h1 : 1 ≤ m) (h4 : m ≤ 12) (hn0 : n = 0) : ab_Q X kX6_gossip [.ref 54, .int (nI m)] w (MP w (-1000005) s n (bump st 4) ks kp tp tn bo so nu) := by
  have M := R.ms
  have R0 := R
  have RC := R0
  obtain ⟨oth, nz, mv, fr, to, vl, wr, a54, a55, a56, a57, a58, a59, a60, a61, a62, a63, a64, l, h0, hn, ht⟩ := R
  show ab_H X kX6_gossip 0 [some (.ref 54), some (.int (nI m)), none, none, none] [] w _
  iterate 4 refine h_s rfl ?_
  refine h_c rfl (m_in12 (nI m)) ?_
  refine h_t (y := 1) (by rw [in12_n h1 h4]; rfl) ?_
  refine h_n (st2 := [_]) rfl ?_
  iterate 2 refine h_s rfl ?_
  refine h_gf rfl rfl rfl a54 rfl ?_
  refine h_k (y := 0) rfl rfl ?_
  refine h_ia (0) rfl a55 (by omega) rfl (by omega) ?_
  refine h_t h0 ?_
  refine hM_ne rfl rfl rfl rfl (by omega) (fun h25 => absurd (hn0) h25) (fun h25 => ?_)
  refine h_s rfl ?_
  refine h_k (y := (-1000005)) rfl rfl ?_
  refine hq_v rfl rfl rfl a54 rfl rfl (m_finds RC 4 (by omega) _ (by decide)) (fun v9 w9 q9 => ?_)
  obtain ⟨rfl, q2, q3⟩ := q9
  refine h_n (st2 := [_]) rfl ?_
  exact h_ri rfl rfl ⟨rfl, q2, q3⟩
set_option maxRecDepth 100000 in
set_option maxHeartbeats 4000000 in
theorem m_gossip_k (R : MW w s n st ks kp tp tn bo so nu) (I : SI s n) (m : Nat) (h1 : 1 ≤ m) (h4 : m ≤ 12) (hn0 : 0 < n) : ab_Q X kX6_gossip [.ref 54, .int (nI m)] w (MP w (nI (pairN (gosS s n m) n n)) (gosS s n m) n st ks kp tp tn bo so nu) := by
  have M := R.ms
  have R0 := R
  have RC := R0
  obtain ⟨oth, nz, mv, fr, to, vl, wr, a54, a55, a56, a57, a58, a59, a60, a61, a62, a63, a64, l, h0, hn, ht⟩ := R
  have R00 := R0
  show ab_H X kX6_gossip 0 [some (.ref 54), some (.int (nI m)), none, none, none] [] w _
  iterate 4 refine h_s rfl ?_
  refine h_c rfl (m_in12 (nI m)) ?_
  refine h_t (y := 1) (by rw [in12_n h1 h4]; rfl) ?_
  refine h_n (st2 := [_]) rfl ?_
  iterate 2 refine h_s rfl ?_
  refine h_gf rfl rfl rfl a54 rfl ?_
  refine h_k (y := 0) rfl rfl ?_
  refine h_ia (0) rfl a55 (by omega) rfl (by omega) ?_
  refine h_t h0 ?_
  refine hM_ne rfl rfl rfl rfl (by omega) (fun h25 => ?_) (fun h25 => absurd h25 (by omega))
  refine h_k (y := 0) rfl rfl ?_
  refine h_s rfl ?_
  refine h_loop0 m (fun i ls v => (∃ x0 x1, ls = [some (.ref 54), some (.int (nI m)), some (.int (nI i)), x0, x1]) ∧ MW v (gosS s n i) n st ks kp tp tn bo so nu ∧ (∀ j, j ≠ 55 → v[j]? = w[j]?) ∧ v[55]? = some (.inr (gosS s n i))) ⟨⟨none, none, rfl⟩, R0, fun _ _ => rfl, a55⟩ (fun i ls v hi hJ ih => ?_) (fun ls v hJ => ?_)
  · obtain ⟨⟨x0, x1, rfl⟩, R0, F, a55⟩ := hJ
    have a54 := (F 54 (by decide)).trans a54
    have gl := (gos_l s n i).trans l.1
    have g0 := (gos_0 s n i).trans h0
    obtain ⟨S, hS⟩ : ∃ S, gosS s n i = S := ⟨_, rfl⟩
    rw [hS] at gl g0 R0 a55
    have hSn : gosS s n (i + 1) = gosT S n := by rw [gosS, hS]
    have d1 := drN_lt (z := lcgI (S.getD 1 0)) hn0
    have d2 := drN_lt (z := lcgI (lcgI (S.getD 1 0))) hn0
    obtain ⟨D1, hD1⟩ : ∃ D1, drN (lcgI (S.getD 1 0)) n = D1 := ⟨_, rfl⟩
    obtain ⟨D2, hD2⟩ : ∃ D2, drN (lcgI (lcgI (S.getD 1 0))) n = D2 := ⟨_, rfl⟩
    rw [hD1] at d1
    rw [hD2] at d2
    iterate 2 refine h_s rfl ?_
    refine hN_ge rfl rfl rfl rfl (by omega) (by omega) (fun h39 => absurd h39 (by omega)) (fun h39 => ?_)
    refine h_s rfl ?_
    refine hq_v rfl rfl rfl a54 rfl rfl (m_draw R0) (fun v1 w1 q1 => ?_)
    obtain ⟨rfl, R1, b1, f1⟩ := q1
    have a54 := (f1 54 (by decide)).trans a54
    have a55 := b1
    refine h_n (st2 := [_]) rfl ?_
    refine h_s rfl ?_
    refine h_gf rfl rfl rfl a54 rfl ?_
    refine h_k (y := 0) rfl rfl ?_
    refine h_ia 0 rfl a55 (by rw [List.length_set]; omega) rfl (by rw [List.length_set]; omega) ?_
    refine h_t (y := nI n) ((gD_ne (by decide)).trans g0) ?_
    refine h_rem (z := nI D1) rfl (nI_ne0 hn0 (by omega)) ((drN_e hn0 hn).trans (congrArg nI hD1)) ?_
    iterate 2 refine h_s rfl ?_
    refine hq_v rfl rfl rfl a54 rfl rfl (m_draw R1) (fun v2 w2 q2 => ?_)
    obtain ⟨rfl, R2, b2, f2⟩ := q2
    have a54 := (f2 54 (by decide)).trans a54
    have a55 := b2
    refine h_n (st2 := [_]) rfl ?_
    refine h_s rfl ?_
    refine h_gf rfl rfl rfl a54 rfl ?_
    refine h_k (y := 0) rfl rfl ?_
    refine h_ia 0 rfl a55 (by rw [List.length_set, List.length_set]; omega) rfl (by rw [List.length_set, List.length_set]; omega) ?_
    refine h_t (y := nI n) ((gD_ne (by decide)).trans ((gD_ne (by decide)).trans g0)) ?_
    refine h_rem (z := nI D2) rfl (nI_ne0 hn0 (by omega)) (by rw [gD_eq (by omega)]; exact (drN_e hn0 hn).trans (congrArg nI hD2)) ?_
    iterate 2 refine h_s rfl ?_
    refine h_gf rfl rfl rfl a54 rfl ?_
    refine h_s rfl ?_
    refine h_k (y := 2) rfl rfl ?_
    refine h_c rfl (m_at D2 2 rfl rfl) ?_
    refine h_n (st2 := [_, _]) rfl ?_
    refine h_s rfl ?_
    refine h_ia (2 + 8 * D2 + 2) rfl a55 (by rw [List.length_set, List.length_set]; omega) rfl (by rw [List.length_set, List.length_set]; omega) ?_
    refine h_t (y := fld S D2 2) ((gD_ne (by omega)).trans (gD_ne (by omega))) ?_
    refine h_k (y := 1) rfl rfl ?_
    iterate 3 refine h_s rfl ?_
    refine h_is (2 + 8 * D2 + 2) rfl a55 (by rw [List.length_set, List.length_set]; omega) rfl (by rw [List.length_set, List.length_set]; omega) (fun w3 e3 f3 => ?_)
    refine h_ii rfl rfl rfl ?_
    refine h_s rfl ?_
    have eS : (((S.set 1 (lcgI (S.getD 1 0))).set 1 (lcgI ((S.set 1 (lcgI (S.getD 1 0))).getD 1 0))).set (2 + 8 * D2 + 2) (fld S D2 2 ||| (1 : Int32) <<< (nI D1 &&& 31))) = gosT S n := by
      unfold gosT
      rw [hD1, hD2, gD_eq (by omega), set_set1]
    have e4 : w3[55]? = some (.inr (gosT S n)) := by rw [e3, ← eS]
    have F3 : ∀ j, j ≠ 55 → w3[j]? = w[j]? := fun j hj => (f3 j hj).trans ((f2 j hj).trans ((f1 j hj).trans (F j hj)))
    rw [← hSn] at e4
    exact ih _ _ ⟨⟨_, _, rfl⟩, R00.s55 e4 (by rw [gos_l]; exact l.1) (by rw [gos_0]; exact h0) hn F3, F3, e4⟩
  · obtain ⟨⟨x0, x1, rfl⟩, R0, F, a55⟩ := hJ
    have a54 := (F 54 (by decide)).trans a54
    have gl := (gos_l s n m).trans l.1
    have g0 := (gos_0 s n m).trans h0
    have I2 := gos_SI I l.1 hn hn0 m
    obtain ⟨S, hS⟩ : ∃ S, gosS s n m = S := ⟨_, rfl⟩
    rw [hS] at gl g0 R0 a55 I2 ⊢
    have M := R0.ms
    iterate 2 refine h_s rfl ?_
    refine hN_ge rfl rfl rfl rfl (by omega) (by omega) (fun h39 => ?_) (fun h39 => absurd (by omega) h39)
    refine h_k (y := 0) rfl rfl ?_
    refine h_s rfl ?_
    refine h_k (y := 0) rfl rfl ?_
    refine h_s rfl ?_
    refine h_loop0 n (fun i ls v2 => (∃ x1, ls = [some (.ref 54), some (.int (nI m)), some (.int (nI (pairN S n i))), some (.int (nI i)), x1]) ∧ v = v2) ⟨⟨_, rfl⟩, rfl⟩ (fun i ls v2 hi hJ ih => ?_) (fun ls v2 hJ => ?_)
    · obtain ⟨⟨x1, rfl⟩, hv⟩ := hJ
      subst hv
      have hx := (I2.1 i hi).2.2.1
      iterate 2 refine h_s rfl ?_
      refine h_gf rfl rfl rfl a54 rfl ?_
      refine h_k (y := 0) rfl rfl ?_
      refine h_ia 0 rfl a55 (by omega) rfl (by omega) ?_
      refine h_t g0 ?_
      refine hN_ge rfl rfl rfl rfl (by omega) (by omega) (fun h101 => absurd h101 (by omega)) (fun h101 => ?_)
      iterate 3 refine h_s rfl ?_
      refine h_k (y := 2) rfl rfl ?_
      refine h_cv rfl rfl rfl a54 rfl rfl (m_its M i 2 (by omega) (by omega) rfl rfl) ?_
      refine h_n (st2 := [_, _]) rfl ?_
      refine h_k (y := 1) rfl rfl ?_
      refine h_s rfl ?_
      refine h_gf rfl rfl rfl a54 rfl ?_
      refine h_k (y := 0) rfl rfl ?_
      refine h_ia 0 rfl a55 (by omega) rfl (by omega) ?_
      refine h_t g0 ?_
      refine h_s rfl ?_
      refine h_k (y := 1) rfl rfl ?_
      iterate 2 refine h_s rfl ?_
      refine h_k (y := 1) rfl rfl ?_
      iterate 2 refine h_s rfl ?_
      refine h_k (y := (-1)) rfl rfl ?_
      refine h_s rfl ?_
      refine h_s rfl ?_
      refine h_t (y := bs (namB S n (fun h => decide (h = i))) n) ?_ ?_
      · show fld S i 2 &&& (((1 : Int32) <<< (nI n &&& 31)) - 1) &&& (((1 : Int32) <<< (nI i &&& 31)) ^^^ (-1)) = _
        rw [mask_n n hn]
        apply b_ext
        intro j hj
        rw [b_and, b_and, b_xor, b_sh (by omega) hj, b_m1 j hj, bt_bs _ _ _ (by omega) hj, bt_bs _ _ _ (by omega) hj, nam_one hi]
        cases decide (j < n) <;> simp
      refine h_c rfl (m_onesB (p := namB S n (fun h => decide (h = i))) hn) ?_
      refine h_n (st2 := [_, _]) rfl ?_
      refine h_Nadd rfl rfl rfl ?_
      refine h_s rfl ?_
      refine h_ii rfl rfl rfl ?_
      refine h_s rfl ?_
      exact ih _ _ ⟨⟨_, rfl⟩, rfl⟩
    · obtain ⟨⟨x1, rfl⟩, hv⟩ := hJ
      subst hv
      iterate 2 refine h_s rfl ?_
      refine h_gf rfl rfl rfl a54 rfl ?_
      refine h_k (y := 0) rfl rfl ?_
      refine h_ia 0 rfl a55 (by omega) rfl (by omega) ?_
      refine h_t g0 ?_
      refine hN_ge rfl rfl rfl rfl (by omega) (by omega) (fun h101 => ?_) (fun h101 => absurd (by omega) h101)
      refine h_s rfl ?_
      exact h_ri rfl rfl ⟨rfl, R0, fun i hi => F i (by omega)⟩
end GM
section GX
variable {X : List Int32} {w w1 : ab_W} {r : Nat} {s : List Int32} {n : Nat} {st ks : List Int32} {kp : Bool} {tp : List Int32} {tn : Nat} {bo so nu : List Int32}
set_option maxRecDepth 100000 in
set_option maxHeartbeats 4000000 in
theorem x_gossip_b (R : XW w s n st ks kp tp tn bo so nu) (a : Int32) (hb : (in12 a) = false)  : ab_Q X kX5_gossip [.ref 0, .int a] w (XP w (-1000001) s n (bump st 0) ks kp tp tn bo so nu) := by
  have R0 := R
  obtain ⟨x0, XR, ⟨sd, nd, XD⟩, ⟨sk, nk, XK, hkp⟩, XPl, XT, XS, x45, xl⟩ := R
  have r0 := XR.1
  have p0 := XPl.1
  have d0 := XD.1
  have hn : n ≤ 8 := XR.2.2.2.2.2.2.2
  have RC := R0
  show ab_H X kX5_gossip 0 [some (.ref 0), some (.int a), none, none, none] [] w _
  refine h_s rfl ?_
  refine h_k (y := 1) rfl rfl ?_
  refine h2_lt rfl rfl (fun h2 => ?_) (fun h2 => ?_)
  · refine h_s rfl ?_
    refine h_k (y := (-1000001)) rfl rfl ?_
    refine hq_v rfl rfl rfl x0 rfl rfl (x_found RC 0 (by omega) _ (by decide)) (fun v9 w9 q9 => ?_)
    obtain ⟨rfl, q2, q3⟩ := q9
    refine h_n (st2 := [_]) rfl ?_
    exact h_ri rfl rfl ⟨rfl, q2, q3⟩
  · refine h_s rfl ?_
    refine h_k (y := 12) rfl rfl ?_
    refine h2_le rfl rfl (fun h8 => ?_) (fun h8 => ?_)
    · exact absurd hb (by rw [show in12 a = true from decide_eq_true (by rw [lt_iff] at h2; rw [le_iff] at h8; exact ⟨Int.not_lt.mp h2, h8⟩)]; decide)
    · refine h_s rfl ?_
      refine h_k (y := (-1000001)) rfl rfl ?_
      refine hq_v rfl rfl rfl x0 rfl rfl (x_found RC 0 (by omega) _ (by decide)) (fun v9 w9 q9 => ?_)
      obtain ⟨rfl, q2, q3⟩ := q9
      refine h_n (st2 := [_]) rfl ?_
      exact h_ri rfl rfl ⟨rfl, q2, q3⟩
set_option maxRecDepth 100000 in
set_option maxHeartbeats 4000000 in
theorem x_gossip_z (R : XW w s n st ks kp tp tn bo so nu) (m : Nat) (h1 : 1 ≤ m) (h4 : m ≤ 12) (hn0 : n = 0) : ab_Q X kX5_gossip [.ref 0, .int (nI m)] w (XP w (-1000005) s n (bump st 4) ks kp tp tn bo so nu) := by
  have R0 := R
  obtain ⟨x0, XR, ⟨sd, nd, XD⟩, ⟨sk, nk, XK, hkp⟩, XPl, XT, XS, x45, xl⟩ := R
  have r0 := XR.1
  have p0 := XPl.1
  have d0 := XD.1
  have hn : n ≤ 8 := XR.2.2.2.2.2.2.2
  have RC := R0
  show ab_H X kX5_gossip 0 [some (.ref 0), some (.int (nI m)), none, none, none] [] w _
  refine h_s rfl ?_
  refine h_k (y := 1) rfl rfl ?_
  refine hN_lt (b := 1) rfl rfl rfl rfl (by omega) (by omega) (fun h2 => absurd h2 (by omega)) (fun h2 => ?_)
  refine h_s rfl ?_
  refine h_k (y := 12) rfl rfl ?_
  refine hN_le (b := 12) rfl rfl rfl rfl (by omega) (by omega) (fun h8 => ?_) (fun h8 => absurd (by omega) h8)
  refine h_s rfl ?_
  refine h_gf rfl rfl rfl x0 rfl ?_
  refine h_gf rfl rfl rfl r0 rfl ?_
  refine hM_ne rfl rfl rfl rfl (by omega) (fun h25 => absurd (hn0) h25) (fun h25 => ?_)
  refine h_s rfl ?_
  refine h_k (y := (-1000005)) rfl rfl ?_
  refine hq_v rfl rfl rfl x0 rfl rfl (x_found RC 4 (by omega) _ (by decide)) (fun v9 w9 q9 => ?_)
  obtain ⟨rfl, q2, q3⟩ := q9
  refine h_n (st2 := [_]) rfl ?_
  exact h_ri rfl rfl ⟨rfl, q2, q3⟩
theorem x_drawB (XR : RowW w r s n) {b : Nat} (hb : 0 < b) (hb8 : b ≤ 8) : ab_Q X kX2_drawBelow [.ref r, .int (nI b)] w (fun v w1 => v = some (.int (nI (drN (lcgI (s.getD 1 0)) b))) ∧ RowW w1 r (s.set 1 (lcgI (s.getD 1 0))) n ∧ ∀ i, (i < r ∨ r + 11 ≤ i) → w1[i]? = w[i]?) := by
  refine hq_m (x_drawBelow XR hb hb8) (fun v w1 h => ?_)
  obtain ⟨j, hj, e, hv, R1, F⟩ := h
  have e2 : nI j = nI (drN (lcgI (s.getD 1 0)) b) := by
    rw [e]
    show (((lcgI (s.getD 1 0)).toUInt32 >>> ((8 : Int32).toUInt32 &&& Int32.toUInt32 31)).toInt32) - (((lcgI (s.getD 1 0)).toUInt32 >>> ((8 : Int32).toUInt32 &&& Int32.toUInt32 31)).toInt32) / nI b * nI b = _
    rw [ush8]
    exact drN_e hb hb8
  exact ⟨by rw [hv, e2], R1, F⟩
set_option maxRecDepth 100000 in
set_option maxHeartbeats 4000000 in
theorem x_gossip_k (R : XW w s n st ks kp tp tn bo so nu) (I : SI s n) (m : Nat) (h1 : 1 ≤ m) (h4 : m ≤ 12) (hn0 : 0 < n) : ab_Q X kX5_gossip [.ref 0, .int (nI m)] w (XP w (nI (pairN (gosS s n m) n n)) (gosS s n m) n st ks kp tp tn bo so nu) := by
  have R0 := R
  obtain ⟨x0, XR, ⟨sd, nd, XD⟩, ⟨sk, nk, XK, hkp⟩, XPl, XT, XS, x45, xl⟩ := R
  have r0 := XR.1
  have p0 := XPl.1
  have d0 := XD.1
  have hn : n ≤ 8 := XR.2.2.2.2.2.2.2
  have RC := R0
  show ab_H X kX5_gossip 0 [some (.ref 0), some (.int (nI m)), none, none, none] [] w _
  refine h_s rfl ?_
  refine h_k (y := 1) rfl rfl ?_
  refine hN_lt (b := 1) rfl rfl rfl rfl (by omega) (by omega) (fun h2 => absurd h2 (by omega)) (fun h2 => ?_)
  refine h_s rfl ?_
  refine h_k (y := 12) rfl rfl ?_
  refine hN_le (b := 12) rfl rfl rfl rfl (by omega) (by omega) (fun h8 => ?_) (fun h8 => absurd (by omega) h8)
  refine h_s rfl ?_
  refine h_gf rfl rfl rfl x0 rfl ?_
  refine h_gf rfl rfl rfl r0 rfl ?_
  refine hM_ne rfl rfl rfl rfl (by omega) (fun h25 => ?_) (fun h25 => absurd h25 (by omega))
  refine h_k (y := 0) rfl rfl ?_
  refine h_s rfl ?_
  have hl0 := XR.2.2.2.2.2.1
  refine h_loop0 m (fun i ls v => (∃ x0 x1, ls = [some (.ref 0), some (.int (nI m)), some (.int (nI i)), x0, x1]) ∧ RowW v 1 (gosS s n i) n ∧ ∀ j, (j < 1 ∨ 12 ≤ j) → v[j]? = w[j]?) ⟨⟨none, none, rfl⟩, XR, fun _ _ => rfl⟩ (fun i ls v hi hJ ih => ?_) (fun ls v hJ => ?_)
  · obtain ⟨⟨x1, x2, rfl⟩, XR, F⟩ := hJ
    have x0 := (F 0 (by decide)).trans x0
    have r0 := XR.1
    obtain ⟨S, hS⟩ : ∃ S, gosS s n i = S := ⟨_, rfl⟩
    have gl : S.length = 90 := by rw [← hS, gos_l]; exact hl0
    rw [hS] at XR r0
    have hSn : gosS s n (i + 1) = gosT S n := by rw [gosS, hS]
    have d1 := drN_lt (z := lcgI (S.getD 1 0)) hn0
    have d2 := drN_lt (z := lcgI (lcgI (S.getD 1 0))) hn0
    obtain ⟨D1, hD1⟩ : ∃ D1, drN (lcgI (S.getD 1 0)) n = D1 := ⟨_, rfl⟩
    obtain ⟨D2, hD2⟩ : ∃ D2, drN (lcgI (lcgI (S.getD 1 0))) n = D2 := ⟨_, rfl⟩
    rw [hD1] at d1
    rw [hD2] at d2
    iterate 2 refine h_s rfl ?_
    refine hN_ge rfl rfl rfl rfl (by omega) (by omega) (fun h39 => absurd h39 (by omega)) (fun h39 => ?_)
    refine h_s rfl ?_
    refine h_gf rfl rfl rfl x0 rfl ?_
    refine h_s rfl ?_
    refine h_gf rfl rfl rfl x0 rfl ?_
    refine h_gf rfl rfl rfl r0 rfl ?_
    refine hq_v rfl rfl rfl r0 rfl rfl (x_drawB XR hn0 hn) (fun v1 w1 q1 => ?_)
    obtain ⟨rfl, XR, f1⟩ := q1
    have x0 := (f1 0 (by decide)).trans x0
    have r0 := XR.1
    refine h_n (st2 := [_]) rfl ?_
    rw [hD1]
    iterate 2 refine h_s rfl ?_
    refine h_gf rfl rfl rfl x0 rfl ?_
    refine h_s rfl ?_
    refine h_gf rfl rfl rfl x0 rfl ?_
    refine h_s rfl ?_
    refine h_gf rfl rfl rfl x0 rfl ?_
    refine h_gf rfl rfl rfl r0 rfl ?_
    refine hq_v rfl rfl rfl r0 rfl rfl (x_drawB XR hn0 hn) (fun v2 w2 q2 => ?_)
    obtain ⟨rfl, XR, f2⟩ := q2
    have x0 := (f2 0 (by decide)).trans x0
    have r0 := XR.1
    refine h_n (st2 := [_, _]) rfl ?_
    rw [gD_eq (by omega), hD2]
    refine h_cv rfl rfl rfl r0 rfl rfl (x_at XR d2) ?_
    refine h_n (st2 := [_]) rfl ?_
    iterate 5 refine h_s rfl ?_
    refine h_gf rfl rfl rfl (XR.2.2.2.1 D2 d2) rfl ?_
    refine h_k (y := 1) rfl rfl ?_
    iterate 3 refine h_s rfl ?_
    refine h_pf rfl rfl (XR.2.2.2.1 D2 d2) rfl (fun w3 e3 f3 => ?_)
    refine h_ii rfl rfl rfl ?_
    refine h_s rfl ?_
    have XR := XR.setf (v := fld ((S.set 1 (lcgI (S.getD 1 0))).set 1 (lcgI ((S.set 1 (lcgI (S.getD 1 0))).getD 1 0))) D2 2 ||| (1 : Int32) <<< (nI D1 &&& 31)) (j := 2) d2 (by decide) e3 f3
    have eS : (((S.set 1 (lcgI (S.getD 1 0))).set 1 (lcgI ((S.set 1 (lcgI (S.getD 1 0))).getD 1 0))).set (2 + 8 * D2 + 2) (fld ((S.set 1 (lcgI (S.getD 1 0))).set 1 (lcgI ((S.set 1 (lcgI (S.getD 1 0))).getD 1 0))) D2 2 ||| (1 : Int32) <<< (nI D1 &&& 31))) = gosT S n := by
      unfold gosT
      rw [fld_ne (by omega), fld_ne (by omega), hD1, hD2, gD_eq (by omega), set_set1]
    rw [eS, ← hSn] at XR
    exact ih _ _ ⟨⟨_, _, rfl⟩, XR, fun j hj => (f3 j (by omega)).trans ((f2 j hj).trans ((f1 j hj).trans (F j hj)))⟩
  · obtain ⟨⟨x1, x2, rfl⟩, XR, F⟩ := hJ
    have x0 := (F 0 (by decide)).trans x0
    have r0 := XR.1
    have I2 := gos_SI I hl0 hn hn0 m
    iterate 2 refine h_s rfl ?_
    refine hN_ge rfl rfl rfl rfl (by omega) (by omega) (fun h39 => ?_) (fun h39 => absurd (by omega) h39)
    refine h_s rfl ?_
    refine h_gf rfl rfl rfl x0 rfl ?_
    refine h_cv rfl rfl rfl r0 rfl rfl (x_pairs XR I2) ?_
    refine h_n (st2 := [_]) rfl ?_
    exact h_ri rfl rfl ⟨rfl, R0.row XR F, fun i hi => F i (by omega)⟩
end GX
