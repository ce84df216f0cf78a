/-! THE CLASS: best, worth, quarrel, open; counts; images -/
theorem pc_14_0 : ∀ a, a < 16 → ∀ b, b < 64 → pcI (nI (0 + 64 * a + b)) = nI (cntR (bt (nI (0 + 64 * a + b))) 14) := by decide +kernel
theorem pc_14_1 : ∀ a, a < 16 → ∀ b, b < 64 → pcI (nI (1024 + 64 * a + b)) = nI (cntR (bt (nI (1024 + 64 * a + b))) 14) := by decide +kernel
theorem pc_14_2 : ∀ a, a < 16 → ∀ b, b < 64 → pcI (nI (2048 + 64 * a + b)) = nI (cntR (bt (nI (2048 + 64 * a + b))) 14) := by decide +kernel
theorem pc_14_3 : ∀ a, a < 16 → ∀ b, b < 64 → pcI (nI (3072 + 64 * a + b)) = nI (cntR (bt (nI (3072 + 64 * a + b))) 14) := by decide +kernel
theorem pc_14_4 : ∀ a, a < 16 → ∀ b, b < 64 → pcI (nI (4096 + 64 * a + b)) = nI (cntR (bt (nI (4096 + 64 * a + b))) 14) := by decide +kernel
theorem pc_14_5 : ∀ a, a < 16 → ∀ b, b < 64 → pcI (nI (5120 + 64 * a + b)) = nI (cntR (bt (nI (5120 + 64 * a + b))) 14) := by decide +kernel
theorem pc_14_6 : ∀ a, a < 16 → ∀ b, b < 64 → pcI (nI (6144 + 64 * a + b)) = nI (cntR (bt (nI (6144 + 64 * a + b))) 14) := by decide +kernel
theorem pc_14_7 : ∀ a, a < 16 → ∀ b, b < 64 → pcI (nI (7168 + 64 * a + b)) = nI (cntR (bt (nI (7168 + 64 * a + b))) 14) := by decide +kernel
theorem pc_14_8 : ∀ a, a < 16 → ∀ b, b < 64 → pcI (nI (8192 + 64 * a + b)) = nI (cntR (bt (nI (8192 + 64 * a + b))) 14) := by decide +kernel
theorem pc_14_9 : ∀ a, a < 16 → ∀ b, b < 64 → pcI (nI (9216 + 64 * a + b)) = nI (cntR (bt (nI (9216 + 64 * a + b))) 14) := by decide +kernel
theorem pc_14_10 : ∀ a, a < 16 → ∀ b, b < 64 → pcI (nI (10240 + 64 * a + b)) = nI (cntR (bt (nI (10240 + 64 * a + b))) 14) := by decide +kernel
theorem pc_14_11 : ∀ a, a < 16 → ∀ b, b < 64 → pcI (nI (11264 + 64 * a + b)) = nI (cntR (bt (nI (11264 + 64 * a + b))) 14) := by decide +kernel
theorem pc_14_12 : ∀ a, a < 16 → ∀ b, b < 64 → pcI (nI (12288 + 64 * a + b)) = nI (cntR (bt (nI (12288 + 64 * a + b))) 14) := by decide +kernel
theorem pc_14_13 : ∀ a, a < 16 → ∀ b, b < 64 → pcI (nI (13312 + 64 * a + b)) = nI (cntR (bt (nI (13312 + 64 * a + b))) 14) := by decide +kernel
theorem pc_14_14 : ∀ a, a < 16 → ∀ b, b < 64 → pcI (nI (14336 + 64 * a + b)) = nI (cntR (bt (nI (14336 + 64 * a + b))) 14) := by decide +kernel
theorem pc_14_15 : ∀ a, a < 16 → ∀ b, b < 64 → pcI (nI (15360 + 64 * a + b)) = nI (cntR (bt (nI (15360 + 64 * a + b))) 14) := by decide +kernel
theorem pc_14 (m : Nat) (hm : m < 16384) : pcI (nI m) = nI (cntR (bt (nI m)) 14) := by
  rcases (show m / 1024 = 0 ∨ m / 1024 = 1 ∨ m / 1024 = 2 ∨ m / 1024 = 3 ∨ m / 1024 = 4 ∨ m / 1024 = 5 ∨ m / 1024 = 6 ∨ m / 1024 = 7 ∨ m / 1024 = 8 ∨ m / 1024 = 9 ∨ m / 1024 = 10 ∨ m / 1024 = 11 ∨ m / 1024 = 12 ∨ m / 1024 = 13 ∨ m / 1024 = 14 ∨ m / 1024 = 15 by omega) with e | e | e | e | e | e | e | e | e | e | e | e | e | e | e | e
  · have h := pc_14_0 (m % 1024 / 64) (by omega) (m % 64) (by omega)
    rw [show 0 + 64 * (m % 1024 / 64) + m % 64 = m by omega] at h
    exact h
  · have h := pc_14_1 (m % 1024 / 64) (by omega) (m % 64) (by omega)
    rw [show 1024 + 64 * (m % 1024 / 64) + m % 64 = m by omega] at h
    exact h
  · have h := pc_14_2 (m % 1024 / 64) (by omega) (m % 64) (by omega)
    rw [show 2048 + 64 * (m % 1024 / 64) + m % 64 = m by omega] at h
    exact h
  · have h := pc_14_3 (m % 1024 / 64) (by omega) (m % 64) (by omega)
    rw [show 3072 + 64 * (m % 1024 / 64) + m % 64 = m by omega] at h
    exact h
  · have h := pc_14_4 (m % 1024 / 64) (by omega) (m % 64) (by omega)
    rw [show 4096 + 64 * (m % 1024 / 64) + m % 64 = m by omega] at h
    exact h
  · have h := pc_14_5 (m % 1024 / 64) (by omega) (m % 64) (by omega)
    rw [show 5120 + 64 * (m % 1024 / 64) + m % 64 = m by omega] at h
    exact h
  · have h := pc_14_6 (m % 1024 / 64) (by omega) (m % 64) (by omega)
    rw [show 6144 + 64 * (m % 1024 / 64) + m % 64 = m by omega] at h
    exact h
  · have h := pc_14_7 (m % 1024 / 64) (by omega) (m % 64) (by omega)
    rw [show 7168 + 64 * (m % 1024 / 64) + m % 64 = m by omega] at h
    exact h
  · have h := pc_14_8 (m % 1024 / 64) (by omega) (m % 64) (by omega)
    rw [show 8192 + 64 * (m % 1024 / 64) + m % 64 = m by omega] at h
    exact h
  · have h := pc_14_9 (m % 1024 / 64) (by omega) (m % 64) (by omega)
    rw [show 9216 + 64 * (m % 1024 / 64) + m % 64 = m by omega] at h
    exact h
  · have h := pc_14_10 (m % 1024 / 64) (by omega) (m % 64) (by omega)
    rw [show 10240 + 64 * (m % 1024 / 64) + m % 64 = m by omega] at h
    exact h
  · have h := pc_14_11 (m % 1024 / 64) (by omega) (m % 64) (by omega)
    rw [show 11264 + 64 * (m % 1024 / 64) + m % 64 = m by omega] at h
    exact h
  · have h := pc_14_12 (m % 1024 / 64) (by omega) (m % 64) (by omega)
    rw [show 12288 + 64 * (m % 1024 / 64) + m % 64 = m by omega] at h
    exact h
  · have h := pc_14_13 (m % 1024 / 64) (by omega) (m % 64) (by omega)
    rw [show 13312 + 64 * (m % 1024 / 64) + m % 64 = m by omega] at h
    exact h
  · have h := pc_14_14 (m % 1024 / 64) (by omega) (m % 64) (by omega)
    rw [show 14336 + 64 * (m % 1024 / 64) + m % 64 = m by omega] at h
    exact h
  · have h := pc_14_15 (m % 1024 / 64) (by omega) (m % 64) (by omega)
    rw [show 15360 + 64 * (m % 1024 / 64) + m % 64 = m by omega] at h
    exact h
theorem ones_set14 {p : Nat → Bool} {m : Nat} (hm : m ≤ 14) : ∃ k, k < 16384 ∧ bs p m = nI k ∧ cntR (bt (nI k)) 14 = cntR p m := by
  have key : ∀ m, m ≤ 14 → ∃ k, k < 2 ^ m ∧ bs p m = nI k := by
    intro m
    induction m with
    | zero => exact fun _ => ⟨0, by decide, rfl⟩
    | succ m ih =>
      intro h
      obtain ⟨k, h1, h2⟩ := ih (by omega)
      have hp : 2 ^ (m + 1) = 2 ^ m + 2 ^ m := by rw [Nat.pow_succ]; omega
      cases hb : p m with
      | false => exact ⟨k, by omega, by rw [← bs_succ_f hb, h2]⟩
      | true =>
        refine ⟨k + 2 ^ m, by omega, ?_⟩
        rw [← bs_succ_t hb, h2]
        apply Int32.toBitVec_inj.mp
        have hsh : ∀ m, m < 14 → ((1 : Int32) <<< (nI m &&& 31)).toBitVec.toNat = 2 ^ m := by decide +kernel
        have hk : k < 2 ^ 14 := Nat.lt_of_lt_of_le h1 (Nat.pow_le_pow_right (by decide) (by omega))
        have hm2 : 2 ^ m < 2 ^ 14 := Nat.pow_lt_pow_right (by decide) (by omega)
        apply BitVec.eq_of_toNat_eq
        rw [Int32.toBitVec_or, BitVec.toNat_or, pk_tn (by omega), pk_tn (by omega), hsh m (by omega)]
        have hq := Nat.two_pow_add_eq_or_of_lt h1 1
        rw [Nat.mul_one] at hq
        rw [Nat.or_comm, Nat.add_comm k]
        exact hq.symm
  obtain ⟨k, h1, h2⟩ := key m hm
  have hk : k < 16384 := Nat.lt_of_lt_of_le h1 (Nat.pow_le_pow_right (n := 2) (by decide) hm)
  refine ⟨k, hk, h2, ?_⟩
  rw [← h2]
  have e : ∀ j, j ≤ 14 → cntR (bt (bs p m)) j = cntR p (min j m) := by
    intro j
    induction j with
    | zero => exact fun _ => by rw [Nat.zero_min]; rfl
    | succ j ih =>
      intro hj
      rw [cntR, ih (by omega), bt_bs _ _ _ (by omega) (by omega)]
      by_cases h : j < m
      · rw [show min (j + 1) m = min j m + 1 by omega, cntR, show min j m = j by omega, decide_eq_true h, Bool.true_and]
      · rw [show min (j + 1) m = min j m by omega, decide_eq_false h, Bool.false_and]
        rfl
  rw [e 14 (by omega), show min 14 m = m by omega]
theorem RowW.seth {w w1 : ab_W} {r n h : Nat} {s s' : List Int32} (R : RowW w r s n) (hh : h < n) (e : w1[r + 3 + h]? = some (.inl (0, hL s' h))) (F : ∀ i, i ≠ r + 3 + h → w1[i]? = w[i]?) (hs : s'.length = 90) (g0 : s'.getD 0 0 = s.getD 0 0) (g1 : s'.getD 1 0 = s.getD 1 0) (gd : ∀ d, d < 14 → dB s' d = dB s d) (gs : s'.drop 80 = s.drop 80) (gh : ∀ h', h' ≠ h → hL s' h' = hL s h') : RowW w1 r s' n := by
  obtain ⟨r0, r1, r2, r3, r4, hl, h0, hn⟩ := R
  refine ⟨?_, (F _ (by omega)).trans r1, ?_, fun h' hh' => ?_, fun h' hh' => ?_, hs, g0.trans h0, hn⟩
  · rw [F _ (by omega), r0, g1, bs_cong gd]
  · rw [F _ (by omega), r2, gs]
  · by_cases e1 : h' = h
    · subst e1
      exact e
    · rw [F _ (by omega), r3 h' hh', gh h' e1]
  · by_cases e1 : h' = h
    · subst e1
      exact ⟨_, e, rfl⟩
    · obtain ⟨vs, e2, e3⟩ := r4 h' hh'
      exact ⟨vs, (F _ (by omega)).trans e2, e3⟩
theorem RowW.quar {w w1 : ab_W} {r n a b : Nat} {s : List Int32} (R : RowW w r s n) (ha : a < n) (e : w1[r + 3 + a]? = some (.inl (0, hL (quarS s a b) a))) (F : ∀ i, i ≠ r + 3 + a → w1[i]? = w[i]?) : RowW w1 r (quarS s a b) n := by
  have hl := R.2.2.2.2.2.1
  have hn := R.2.2.2.2.2.2.2
  refine R.seth ha e F ((quar_l ..).trans hl) ?_ ?_ (fun d hd => ?_) ?_ (fun h' hh' => ?_)
  · unfold quarS; rw [gD_ne (by omega), gD_ne (by omega)]
  · unfold quarS; rw [gD_ne (by omega), gD_ne (by omega)]
  · unfold quarS; rw [dB_ne (by omega), dB_ne (by omega)]
  · unfold quarS; rw [drop_lt (by omega), drop_lt (by omega)]
  · unfold quarS; rw [hL_ne (by rw [List.length_set]; exact hl) (by omega) (by decide) hh', hL_ne hl (by omega) (by decide) hh']
section XM
variable {X : List Int32} {w w1 : ab_W} {r : Nat} {s : List Int32} {n : Nat} {st ks : List Int32} {kp : Bool} {tp : List Int32} {tn : Nat} {bo so nu : List Int32}
theorem x_bits14 {p : Nat → Bool} {m : Nat} (hm : m ≤ 14) : ab_M X kJ6_bitCount_0f7a4 [.int (bs p m)] w (some (.int (nI (cntR p m)))) w := by
  obtain ⟨k, hk, e1, e2⟩ := ones_set14 (p := p) hm
  have h := x_bits (X := X) (w := w) (bs p m)
  rw [e1, pc_14 k hk, e2, ← e1] at h
  exact h
set_option maxRecDepth 100000 in
set_option maxHeartbeats 4000000 in
theorem x_best_k (R : XW w s n st ks kp tp tn bo so nu) (I : SI s n) (f : Nat) (hf : f < n) (B : Int32 × Nat) (hB : bestI (fun c => wayF s n f (nI c)) 24 = B) : ab_Q X kX5_best [.ref 0, .int (nI f)] w (fun v w1 => if B.1 < 0 then XP w (-1000004) s n (bump st 3) ks kp tp tn bo so nu v w1 else XP w B.1 s n st ks kp tp tn bo so nu v w1) := by
  have R0 := R
  obtain ⟨x0, XR, ⟨sd, nd, XD⟩, ⟨sk, nk, XK, hkp⟩, XPl, XT, XS, x45, xl⟩ := R
  have r0 := XR.1
  have p0 := XPl.1
  have d0 := XD.1
  have hn : n ≤ 8 := XR.2.2.2.2.2.2.2
  have RC := R0
  show ab_H X kX5_best 0 [some (.ref 0), some (.int (nI f)), none, none, none, none] [] w _
  refine h_s rfl ?_
  refine h_gf rfl rfl rfl x0 rfl ?_
  refine h_s rfl ?_
  refine h_cv rfl rfl rfl r0 rfl rfl (x_rhas XR (nI f)) ?_
  refine h_t (y := 1) (by rw [inN_n (by omega) (by omega)]; rfl) ?_
  refine h_n (st2 := [_]) rfl ?_
  iterate 2 refine h_s rfl ?_
  refine h_gf rfl rfl rfl x0 rfl ?_
  refine h_s rfl ?_
  refine h_gf rfl rfl rfl x0 rfl ?_
  refine hq_v rfl rfl rfl p0 rfl rfl (x_draw XPl XR I (by omega)) (fun v1 w1 q1 => ?_)
  obtain ⟨rfl, PJ, f1⟩ := q1
  have G : ∀ i, (i < 34 ∨ 39 ≤ i) → w1[i]? = w[i]? := fun i hi => f1 i (by omega)
  have x0 := (G 0 (by decide)).trans x0
  have XR := XR.fr (w1 := w1) (fun i _ _ => G i (by omega))
  have r0 := XR.1
  have p0 := PJ.1
  refine h_n (st2 := []) rfl ?_
  refine h_k (y := 17) rfl rfl ?_
  refine h_s rfl ?_
  refine h_k (y := (-1)) rfl rfl ?_
  refine h_s rfl ?_
  refine h_k (y := 0) rfl rfl ?_
  refine h_s rfl ?_
  refine h_loop0 24 (fun i ls v => (∃ b lw cl x, bestI (fun c => wayF s n f (nI c)) i = (b, lw) ∧ (b < 0 → cl = 17) ∧ (¬ b < 0 → cl = lw) ∧ cl ≤ 17 ∧ ls = [some (.ref 0), some (.int (nI f)), some (.int (nI cl)), some (.int b), some (.int (nI i)), x]) ∧ (∀ j, (j < 34 ∨ 39 ≤ j) → v[j]? = w[j]?) ∧ PlanJ v (adjB s n)) ⟨⟨-1, 0, 17, none, rfl, fun _ => rfl, fun q => absurd (by decide) q, by decide, rfl⟩, G, PJ⟩ (fun i ls v hi hJ ih => ?_) (fun ls v hJ => ?_)
  · obtain ⟨⟨b, lw, cl, x, hb, k1, k2, k3, rfl⟩, G, PJ⟩ := hJ
    have x0 := (G 0 (by decide)).trans R0.1
    have XR := R0.2.1.fr (w1 := v) (fun j _ _ => G j (by omega))
    have p0 := PJ.1
    have r0 := XR.1
    refine h_s rfl ?_
    refine h_k (y := 24) rfl rfl ?_
    refine hN_ge (b := 24) rfl rfl rfl rfl (by omega) (by omega) (fun h41 => absurd h41 (by omega)) (fun h41 => ?_)
    iterate 3 refine h_s rfl ?_
    refine hq_v rfl rfl rfl x0 rfl rfl (x_lengthHome x0 XR PJ I (f := f) (by omega) (nI i)) (fun v2 w2 q2 => ?_)
    obtain ⟨rfl, PJ, f2⟩ := q2
    have G : ∀ i, (i < 34 ∨ 39 ≤ i) → w2[i]? = w[i]? := fun i hi => (f2 i (by omega)).trans (G i hi)
    have x0 := (f2 0 (by decide)).trans x0
    have XR := XR.fr (w1 := w2) (fun i _ _ => f2 i (by omega))
    have r0 := XR.1
    have p0 := PJ.1
    refine h_n (st2 := [_]) rfl ?_
    obtain ⟨L, hL⟩ : ∃ L, wayF s n f (nI i) = L := ⟨_, rfl⟩
    have hL16 : L ≤ 16 := by rw [← hL]; exact wayF_le ..
    rw [hL]
    iterate 2 refine h_s rfl ?_
    refine hM_le rfl rfl rfl rfl (by omega) (fun h55 => ?_) (fun h55 => ?_)
    · refine h_ii rfl rfl rfl ?_
      refine h_s rfl ?_
      have e : bestI (fun c => wayF s n f (nI c)) (i + 1) = if 0 < L ∧ (b < 0 ∨ L < lw) then (nI i, L) else (b, lw) := by
        show (if 0 < wayF s n f (nI i) ∧ ((bestI (fun c => wayF s n f (nI c)) i).1 < 0 ∨ wayF s n f (nI i) < (bestI (fun c => wayF s n f (nI c)) i).2) then (nI i, wayF s n f (nI i)) else bestI (fun c => wayF s n f (nI c)) i) = _
        rw [hL, hb]
      rw [if_neg (fun q => by omega)] at e
      exact ih _ _ ⟨⟨b, lw, cl, _, e, k1, k2, k3, rfl⟩, G, PJ⟩
    · iterate 2 refine h_s rfl ?_
      refine hN_ge rfl rfl rfl rfl (by omega) (by omega) (fun h61 => ?_) (fun h61 => ?_)
      · refine h_ii rfl rfl rfl ?_
        refine h_s rfl ?_
        have e : bestI (fun c => wayF s n f (nI c)) (i + 1) = if 0 < L ∧ (b < 0 ∨ L < lw) then (nI i, L) else (b, lw) := by
          show (if 0 < wayF s n f (nI i) ∧ ((bestI (fun c => wayF s n f (nI c)) i).1 < 0 ∨ wayF s n f (nI i) < (bestI (fun c => wayF s n f (nI c)) i).2) then (nI i, wayF s n f (nI i)) else bestI (fun c => wayF s n f (nI c)) i) = _
          rw [hL, hb]
        rw [if_neg (fun q => by
          rcases q.2 with q | q
          · have := k1 q; omega
          · by_cases hb0 : b < 0
            · have := k1 hb0; omega
            · have := k2 hb0; omega)] at e
        exact ih _ _ ⟨⟨b, lw, cl, _, e, k1, k2, k3, rfl⟩, G, PJ⟩
      · iterate 4 refine h_s rfl ?_
        refine h_ii rfl rfl rfl ?_
        refine h_s rfl ?_
        have e : bestI (fun c => wayF s n f (nI c)) (i + 1) = if 0 < L ∧ (b < 0 ∨ L < lw) then (nI i, L) else (b, lw) := by
          show (if 0 < wayF s n f (nI i) ∧ ((bestI (fun c => wayF s n f (nI c)) i).1 < 0 ∨ wayF s n f (nI i) < (bestI (fun c => wayF s n f (nI c)) i).2) then (nI i, wayF s n f (nI i)) else bestI (fun c => wayF s n f (nI c)) i) = _
          rw [hL, hb]
        rw [if_pos ⟨by omega, by
          by_cases hb0 : b < 0
          · exact Or.inl hb0
          · exact Or.inr (by have := k2 hb0; omega)⟩] at e
        exact ih _ _ ⟨⟨nI i, L, L, _, e, fun q => absurd q (nI_pos (by omega)), fun _ => rfl, by omega, rfl⟩, G, PJ⟩
  · obtain ⟨⟨b, lw, cl, x, hb, k1, k2, k3, rfl⟩, G, PJ⟩ := hJ
    have x0 := (G 0 (by decide)).trans R0.1
    have hBb : B.1 = b := by rw [← hB, hb]
    rw [hBb]
    refine h_s rfl ?_
    refine h_k (y := 24) rfl rfl ?_
    refine hN_ge (b := 24) rfl rfl rfl rfl (by omega) (by omega) (fun h41 => ?_) (fun h41 => absurd (by omega) h41)
    refine h_s rfl ?_
    refine h1_ge rfl rfl (fun h77 => ?_) (fun h77 => ?_)
    · refine h_s rfl ?_
      refine h_ri rfl rfl ?_
      rw [if_neg (neg_n h77)]
      exact ⟨rfl, R0.plan PJ.x G, fun i hi => G i (by omega)⟩
    · refine h_s rfl ?_
      refine h_k (y := (-1000004)) rfl rfl ?_
      have RC := R0.plan PJ.x G
      refine hq_v rfl rfl rfl x0 rfl rfl (x_found RC 3 (by omega) _ (by decide)) (fun v9 w9 q9 => ?_)
      obtain ⟨rfl, q2, q3⟩ := q9
      refine h_n (st2 := [_]) rfl ?_
      refine h_s rfl ?_
      refine h_ri rfl rfl ?_
      rw [if_pos (neg_of h77)]
      exact ⟨rfl, q2, fun i hi => (q3 i hi).trans (G i (by omega))⟩
set_option maxRecDepth 100000 in
set_option maxHeartbeats 4000000 in
theorem x_cutOffMore (x0 : w[0]? = some (.inl (5, xObj kp))) (XPl : PlanX w) (XR : RowW w 1 s n) {s' : List Int32} {n' : Nat} (XD : RowW w 12 s' n') (I : SI s n) (I' : SI s' n') (c : Int32) : ab_Q X kX5_cutOffMore [.ref 0, .int c] w (fun v w1 => v = some (.int (nI (offN s' n' c) - nI (offN s n c))) ∧ PlanX w1 ∧ ∀ j, (j < 34 ∨ 39 ≤ j) → w1[j]? = w[j]?) := by
  have hn := XR.2.2.2.2.2.2.2
  have hn' := XD.2.2.2.2.2.2.2
  show ab_H X kX5_cutOffMore 0 [some (.ref 0), some (.int c)] [] w _
  iterate 2 refine h_s rfl ?_
  refine h_gf rfl rfl rfl x0 rfl ?_
  refine h_s rfl ?_
  refine hq_v rfl rfl rfl x0 rfl rfl (x_cutOff x0 XPl XD (by decide) (by decide) I' c) (fun v1 w1 q1 => ?_)
  obtain ⟨rfl, XPl, f1⟩ := q1
  have x0 := (f1 0 (by decide)).trans x0
  have XR := XR.fr (w1 := w1) (fun j _ _ => f1 j (by omega))
  have XD := XD.fr (w1 := w1) (fun j _ _ => f1 j (by omega))
  refine h_n (st2 := [_]) rfl ?_
  refine h_c rfl (x_bitsB (p := fun f => offB s' n' f c) hn') ?_
  refine h_n (st2 := [_]) rfl ?_
  iterate 2 refine h_s rfl ?_
  refine h_gf rfl rfl rfl x0 rfl ?_
  refine h_s rfl ?_
  refine hq_v rfl rfl rfl x0 rfl rfl (x_cutOff x0 XPl XR (by decide) (by decide) I c) (fun v2 w2 q2 => ?_)
  obtain ⟨rfl, XPl, f2⟩ := q2
  have x0 := (f2 0 (by decide)).trans x0
  have XR := XR.fr (w1 := w2) (fun j _ _ => f2 j (by omega))
  have XD := XD.fr (w1 := w2) (fun j _ _ => f2 j (by omega))
  refine h_n (st2 := [_, _]) rfl ?_
  refine h_c rfl (x_bitsB (p := fun f => offB s n f c) hn) ?_
  refine h_n (st2 := [_, _]) rfl ?_
  refine h_s rfl ?_
  exact h_ri rfl rfl ⟨rfl, XPl, fun i hi => (f2 i hi).trans (f1 i hi)⟩
set_option maxRecDepth 100000 in
set_option maxHeartbeats 4000000 in
theorem x_worth_k (R : XW w s n st ks kp tp tn bo so nu) (I : SI s n) (h c : Nat) (hh : h < n) (hc : c < 24) : ab_Q X kX5_worth [.ref 0, .int (nI h), .int (nI c)] w (XP w (nI (offN (s.set (2 + 8 * h + 2) 0) n (nI c)) - nI (offN s n (nI c))) s n st ks kp tp tn bo so nu) := by
  have R0 := R
  obtain ⟨x0, XR, ⟨sd, nd, XD⟩, ⟨sk, nk, XK, hkp⟩, XPl, XT, XS, x45, xl⟩ := R
  have r0 := XR.1
  have p0 := XPl.1
  have d0 := XD.1
  have hn : n ≤ 8 := XR.2.2.2.2.2.2.2
  have RC := R0
  show ab_H X kX5_worth 0 [some (.ref 0), some (.int (nI h)), some (.int (nI c)), none] [] w _
  refine h_s rfl ?_
  refine h_gf rfl rfl rfl x0 rfl ?_
  refine h_s rfl ?_
  refine h_cv rfl rfl rfl r0 rfl rfl (x_rhas XR (nI h)) ?_
  refine h_t (y := 1) (by rw [inN_n (by omega) (by omega)]; rfl) ?_
  refine h_n (st2 := [_]) rfl ?_
  iterate 2 refine h_s rfl ?_
  refine h_k (y := 24) rfl rfl ?_
  refine h_c rfl (x_isBelow (nI c) 24 (by decide)) ?_
  refine h_t (y := 1) (by rw [inN_n (by decide) (by omega)]; rfl) ?_
  refine h_n (st2 := [_]) rfl ?_
  iterate 2 refine h_s rfl ?_
  refine h_gf rfl rfl rfl x0 rfl ?_
  refine h_s rfl ?_
  refine h_gf rfl rfl rfl x0 rfl ?_
  refine hq_v rfl rfl rfl d0 rfl rfl (x_takeRow XR XD (by decide)) (fun v1 w1 q1 => ?_)
  obtain ⟨rfl, XD, f1⟩ := q1
  have x0 := (f1 0 (by decide)).trans x0
  have XR := XR.fr (w1 := w1) (fun i _ _ => f1 i (by omega))
  have r0 := XR.1
  have d0 := XD.1
  have XPl := XPl.fr (w1 := w1) (fun i _ _ => f1 i (by omega))
  refine h_n (st2 := []) rfl ?_
  refine h_s rfl ?_
  refine h_gf rfl rfl rfl x0 rfl ?_
  refine h_s rfl ?_
  refine h_cv rfl rfl rfl d0 rfl rfl (x_at XD hh) ?_
  refine h_n (st2 := [_]) rfl ?_
  iterate 4 refine h_s rfl ?_
  refine h_k (y := 0) rfl rfl ?_
  refine h_pf rfl rfl (XD.2.2.2.1 h hh) rfl (fun w2 e2 f2 => ?_)
  have XD := XD.setf (v := 0) (j := 2) hh (by decide) e2 f2
  have x0 := (f2 0 (by omega)).trans x0
  have XR := XR.fr (w1 := w2) (fun i _ _ => f2 i (by omega))
  have XPl := XPl.fr (w1 := w2) (fun i _ _ => f2 i (by omega))
  iterate 2 refine h_s rfl ?_
  refine hq_v rfl rfl rfl x0 rfl rfl (x_cutOffMore x0 XPl XR XD I (SI_leave I XR.2.2.2.2.2.1 (by omega) (inn_0 8)) (nI c)) (fun v3 w3 q3 => ?_)
  obtain ⟨rfl, XPl, f3⟩ := q3
  have XD := XD.fr (w1 := w3) (fun j _ _ => f3 j (by omega))
  refine h_n (st2 := [_]) rfl ?_
  exact h_ri rfl rfl ⟨rfl, R0.pd XD XPl (fun i hi => (f3 i (by omega)).trans ((f2 i (by omega)).trans (f1 i (by omega)))), fun i hi => (f3 i (by omega)).trans ((f2 i (by omega)).trans (f1 i (by omega)))⟩
set_option maxRecDepth 100000 in
set_option maxHeartbeats 4000000 in
theorem x_quarrel_k (R : XW w s n st ks kp tp tn bo so nu) (I : SI s n) (a b c : Nat) (ha : a < n) (hb : b < n) (hab : ¬ a = b) (hc : c < 24) : ab_Q X kX5_quarrel [.ref 0, .int (nI a), .int (nI b), .int (nI c)] w (XP w (nI (offN (quarS (quarS s a b) b a) n (nI c)) - nI (offN s n (nI c))) s n st ks kp tp tn bo so nu) := by
  have R0 := R
  obtain ⟨x0, XR, ⟨sd, nd, XD⟩, ⟨sk, nk, XK, hkp⟩, XPl, XT, XS, x45, xl⟩ := R
  have r0 := XR.1
  have p0 := XPl.1
  have d0 := XD.1
  have hn : n ≤ 8 := XR.2.2.2.2.2.2.2
  have RC := R0
  show ab_H X kX5_quarrel 0 [some (.ref 0), some (.int (nI a)), some (.int (nI b)), some (.int (nI c)), none, none] [] w _
  refine h_s rfl ?_
  refine h_gf rfl rfl rfl x0 rfl ?_
  refine h_s rfl ?_
  refine h_cv rfl rfl rfl r0 rfl rfl (x_rhas XR (nI a)) ?_
  refine h_t (y := 1) (by rw [inN_n (by omega) (by omega)]; rfl) ?_
  refine h_n (st2 := [_]) rfl ?_
  iterate 2 refine h_s rfl ?_
  refine h_gf rfl rfl rfl x0 rfl ?_
  refine h_s rfl ?_
  refine h_cv rfl rfl rfl r0 rfl rfl (x_rhas XR (nI b)) ?_
  refine h_t (y := 1) (by rw [inN_n (by omega) (by omega)]; rfl) ?_
  refine h_n (st2 := [_]) rfl ?_
  iterate 3 refine h_s rfl ?_
  refine hN_eq rfl rfl rfl rfl (by omega) (by omega) (fun h24 => absurd h24 (hab)) (fun h24 => ?_)
  refine h_s rfl ?_
  refine h_k (y := 24) rfl rfl ?_
  refine h_c rfl (x_isBelow (nI c) 24 (by decide)) ?_
  refine h_t (y := 1) (by rw [inN_n (by decide) (by omega)]; rfl) ?_
  refine h_n (st2 := [_]) rfl ?_
  iterate 2 refine h_s rfl ?_
  refine h_gf rfl rfl rfl x0 rfl ?_
  refine h_s rfl ?_
  refine h_gf rfl rfl rfl x0 rfl ?_
  refine hq_v rfl rfl rfl d0 rfl rfl (x_takeRow XR XD (by decide)) (fun v1 w1 q1 => ?_)
  obtain ⟨rfl, XD, f1⟩ := q1
  have x0 := (f1 0 (by decide)).trans x0
  have XR := XR.fr (w1 := w1) (fun i _ _ => f1 i (by omega))
  have r0 := XR.1
  have d0 := XD.1
  have XPl := XPl.fr (w1 := w1) (fun i _ _ => f1 i (by omega))
  refine h_n (st2 := []) rfl ?_
  refine h_s rfl ?_
  refine h_gf rfl rfl rfl x0 rfl ?_
  refine h_s rfl ?_
  refine h_cv rfl rfl rfl d0 rfl rfl (x_at XD ha) ?_
  refine h_n (st2 := [_]) rfl ?_
  iterate 2 refine h_s rfl ?_
  refine h_gf rfl rfl rfl x0 rfl ?_
  refine h_s rfl ?_
  refine h_cv rfl rfl rfl d0 rfl rfl (x_at XD hb) ?_
  refine h_n (st2 := [_]) rfl ?_
  iterate 7 refine h_s rfl ?_
  refine hq_v rfl rfl rfl (XD.2.2.2.1 a ha) rfl rfl (x_fallOut (XD.2.2.2.1 a ha) (show b < 8 by omega) XD.2.2.2.2.2.1 (by omega)) (fun v2 w2 q2 => ?_)
  obtain ⟨rfl, e2, f2⟩ := q2
  have XD := XD.quar ha e2 f2
  have x0 := (f2 0 (by omega)).trans x0
  have XR := XR.fr (w1 := w2) (fun i _ _ => f2 i (by omega))
  have XPl := XPl.fr (w1 := w2) (fun i _ _ => f2 i (by omega))
  have d0 := XD.1
  refine h_n (st2 := []) rfl ?_
  iterate 2 refine h_s rfl ?_
  refine hq_v rfl rfl rfl (XD.2.2.2.1 b hb) rfl rfl (x_fallOut (XD.2.2.2.1 b hb) (show a < 8 by omega) XD.2.2.2.2.2.1 (by omega)) (fun v4 w4 q4 => ?_)
  obtain ⟨rfl, e4, f4⟩ := q4
  have XD := XD.quar hb e4 f4
  have x0 := (f4 0 (by omega)).trans x0
  have XR := XR.fr (w1 := w4) (fun i _ _ => f4 i (by omega))
  have XPl := XPl.fr (w1 := w4) (fun i _ _ => f4 i (by omega))
  have d0 := XD.1
  refine h_n (st2 := []) rfl ?_
  iterate 2 refine h_s rfl ?_
  refine hq_v rfl rfl rfl x0 rfl rfl (x_cutOffMore x0 XPl XR XD I (quar_SI (quar_SI I XR.2.2.2.2.2.1 ha hn (by omega)) ((quar_l s a b).trans XR.2.2.2.2.2.1) hb hn (by omega)) (nI c)) (fun v3 w3 q3 => ?_)
  obtain ⟨rfl, XPl, f3⟩ := q3
  have XD := XD.fr (w1 := w3) (fun j _ _ => f3 j (by omega))
  refine h_n (st2 := [_]) rfl ?_
  exact h_ri rfl rfl ⟨rfl, R0.pd XD XPl (fun i hi => (f3 i (by omega)).trans ((f4 i (by omega)).trans ((f2 i (by omega)).trans (f1 i (by omega))))), fun i hi => (f3 i (by omega)).trans ((f4 i (by omega)).trans ((f2 i (by omega)).trans (f1 i (by omega))))⟩
end XM
