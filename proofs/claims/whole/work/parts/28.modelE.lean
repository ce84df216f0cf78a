/-! THE REFERENCE: best, worth, open: what is tried and put back -/
section ME
variable {X : List Int32} {w : ab_W} {s : List Int32} {n : Nat} {st ks : List Int32} {kp : Bool} {tp : List Int32} {tn : Nat} {bo so nu : List Int32}
set_option maxRecDepth 100000 in
set_option maxHeartbeats 4000000 in
theorem m_best_k (R : MW w s n st ks kp tp tn bo so nu) (I : SI s n) (f : Nat) (hf : f < n) (B : Int32 × Nat) (hB : bestI (fun c => wayF s n f (nI c)) 24 = B) : ab_Q X kX6_best [.ref 54, .int (nI f)] w (fun v w1 => if B.1 < 0 then MP w (-1000004) s n (bump st 3) ks kp tp tn bo so nu v w1 else MP w B.1 s n st ks kp tp tn bo so nu v w1) := by
  have M := R.ms
  have R0 := R
  obtain ⟨oth, nz, mv, fr, to, vl, wr, a54, a55, a56, a57, a58, a59, a60, a61, a62, a63, a64, l, h0, hn, ht⟩ := R
  show ab_H X kX6_best 0 [some (.ref 54), some (.int (nI f)), none, none, none, none] [] w _
  iterate 2 refine h_s rfl ?_
  refine h_cv rfl rfl rfl a54 rfl rfl (m_isHouse1 M ⟨f, by omega, rfl⟩) ?_
  refine h_s rfl ?_
  refine h_k (y := (-1)) rfl rfl ?_
  refine h_s rfl ?_
  refine h_k (y := 0) rfl rfl ?_
  refine h_s rfl ?_
  refine h_k (y := 0) rfl rfl ?_
  refine h_s rfl ?_
  refine h_loop0 24 (fun i ls w1 => w1 = w ∧ ∃ b lw x, bestI (fun c => wayF s n f (nI c)) i = (b, lw) ∧ lw ≤ 16 ∧ ls = [some (.ref 54), some (.int (nI f)), some (.int b), some (.int (nI lw)), some (.int (nI i)), x]) ⟨rfl, -1, 0, none, rfl, by omega, rfl⟩ (fun i ls w1 hi hJ ih => ?_) (fun ls w1 hJ => ?_)
  · obtain ⟨rfl, b, lw, x, hbl, hlw, rfl⟩ := hJ
    obtain ⟨W, hW⟩ : ∃ W, wayF s n f (nI i) = W := ⟨_, rfl⟩
    have hW16 : W ≤ 16 := by rw [← hW]; exact wayF_le ..
    refine h_s rfl ?_
    refine h_k (y := 24) rfl rfl ?_
    refine h2_ge rfl rfl (fun h26 => absurd h26 (nI_ge (b := 24) hi (by omega))) (fun h26 => ?_)
    iterate 3 refine h_s rfl ?_
    refine h_cv rfl rfl rfl a54 rfl rfl (m_wayHome M I f hf (nI i)) ?_
    refine h_t (congrArg nI hW) ?_
    iterate 2 refine h_s rfl ?_
    refine h1_le rfl rfl (fun h40 => ?_) (fun h40 => ?_)
    · refine h_ii rfl rfl rfl ?_
      refine h_s rfl ?_
      have e : bestI (fun c => wayF s n f (nI c)) (i + 1) = if 0 < W ∧ (b < 0 ∨ W < lw) then (nI i, W) else (b, lw) := by
        show (if 0 < wayF s n f (nI i) ∧ ((bestI (fun c => wayF s n f (nI c)) i).1 < 0 ∨ wayF s n f (nI i) < (bestI (fun c => wayF s n f (nI c)) i).2) then (nI i, wayF s n f (nI i)) else bestI (fun c => wayF s n f (nI c)) i) = _
        rw [hW, hbl]
      try rw [show (0 : Int32) = nI 0 from rfl, nI_leI (by omega) (by omega)] at h40
      try rw [nI_leI (by omega) (by omega)] at h50
      first | rw [if_pos (show 0 < W ∧ (b < 0 ∨ W < lw) from ⟨by omega, Or.inl h44⟩)] at e | rw [if_pos (show 0 < W ∧ (b < 0 ∨ W < lw) from ⟨by omega, Or.inr (by omega)⟩)] at e | rw [if_neg (show ¬ (0 < W ∧ (b < 0 ∨ W < lw)) from fun q => absurd q.1 (by omega))] at e | rw [if_neg (show ¬ (0 < W ∧ (b < 0 ∨ W < lw)) from fun q => q.2.elim h44 (by omega))] at e
      exact ih _ _ ⟨rfl, _, _, _, e, by omega, rfl⟩
    · refine h_s rfl ?_
      refine h1_lt rfl rfl (fun h44 => ?_) (fun h44 => ?_)
      · iterate 4 refine h_s rfl ?_
        refine h_ii rfl rfl rfl ?_
        refine h_s rfl ?_
        have e : bestI (fun c => wayF s n f (nI c)) (i + 1) = if 0 < W ∧ (b < 0 ∨ W < lw) then (nI i, W) else (b, lw) := by
          show (if 0 < wayF s n f (nI i) ∧ ((bestI (fun c => wayF s n f (nI c)) i).1 < 0 ∨ wayF s n f (nI i) < (bestI (fun c => wayF s n f (nI c)) i).2) then (nI i, wayF s n f (nI i)) else bestI (fun c => wayF s n f (nI c)) i) = _
          rw [hW, hbl]
        try rw [show (0 : Int32) = nI 0 from rfl, nI_leI (by omega) (by omega)] at h40
        try rw [nI_leI (by omega) (by omega)] at h50
        first | rw [if_pos (show 0 < W ∧ (b < 0 ∨ W < lw) from ⟨by omega, Or.inl h44⟩)] at e | rw [if_pos (show 0 < W ∧ (b < 0 ∨ W < lw) from ⟨by omega, Or.inr (by omega)⟩)] at e | rw [if_neg (show ¬ (0 < W ∧ (b < 0 ∨ W < lw)) from fun q => absurd q.1 (by omega))] at e | rw [if_neg (show ¬ (0 < W ∧ (b < 0 ∨ W < lw)) from fun q => q.2.elim h44 (by omega))] at e
        exact ih _ _ ⟨rfl, _, _, _, e, by omega, rfl⟩
      · iterate 2 refine h_s rfl ?_
        refine h2_ge rfl rfl (fun h50 => ?_) (fun h50 => ?_)
        · refine h_ii rfl rfl rfl ?_
          refine h_s rfl ?_
          have e : bestI (fun c => wayF s n f (nI c)) (i + 1) = if 0 < W ∧ (b < 0 ∨ W < lw) then (nI i, W) else (b, lw) := by
            show (if 0 < wayF s n f (nI i) ∧ ((bestI (fun c => wayF s n f (nI c)) i).1 < 0 ∨ wayF s n f (nI i) < (bestI (fun c => wayF s n f (nI c)) i).2) then (nI i, wayF s n f (nI i)) else bestI (fun c => wayF s n f (nI c)) i) = _
            rw [hW, hbl]
          try rw [show (0 : Int32) = nI 0 from rfl, nI_leI (by omega) (by omega)] at h40
          try rw [nI_leI (by omega) (by omega)] at h50
          first | rw [if_pos (show 0 < W ∧ (b < 0 ∨ W < lw) from ⟨by omega, Or.inl h44⟩)] at e | rw [if_pos (show 0 < W ∧ (b < 0 ∨ W < lw) from ⟨by omega, Or.inr (by omega)⟩)] at e | rw [if_neg (show ¬ (0 < W ∧ (b < 0 ∨ W < lw)) from fun q => absurd q.1 (by omega))] at e | rw [if_neg (show ¬ (0 < W ∧ (b < 0 ∨ W < lw)) from fun q => q.2.elim h44 (by omega))] at e
          exact ih _ _ ⟨rfl, _, _, _, e, by omega, rfl⟩
        · iterate 4 refine h_s rfl ?_
          refine h_ii rfl rfl rfl ?_
          refine h_s rfl ?_
          have e : bestI (fun c => wayF s n f (nI c)) (i + 1) = if 0 < W ∧ (b < 0 ∨ W < lw) then (nI i, W) else (b, lw) := by
            show (if 0 < wayF s n f (nI i) ∧ ((bestI (fun c => wayF s n f (nI c)) i).1 < 0 ∨ wayF s n f (nI i) < (bestI (fun c => wayF s n f (nI c)) i).2) then (nI i, wayF s n f (nI i)) else bestI (fun c => wayF s n f (nI c)) i) = _
            rw [hW, hbl]
          try rw [show (0 : Int32) = nI 0 from rfl, nI_leI (by omega) (by omega)] at h40
          try rw [nI_leI (by omega) (by omega)] at h50
          first | rw [if_pos (show 0 < W ∧ (b < 0 ∨ W < lw) from ⟨by omega, Or.inl h44⟩)] at e | rw [if_pos (show 0 < W ∧ (b < 0 ∨ W < lw) from ⟨by omega, Or.inr (by omega)⟩)] at e | rw [if_neg (show ¬ (0 < W ∧ (b < 0 ∨ W < lw)) from fun q => absurd q.1 (by omega))] at e | rw [if_neg (show ¬ (0 < W ∧ (b < 0 ∨ W < lw)) from fun q => q.2.elim h44 (by omega))] at e
          exact ih _ _ ⟨rfl, _, _, _, e, by omega, rfl⟩
  · obtain ⟨rfl, b, lw, x, hbl, hlw, rfl⟩ := hJ
    rw [hB] at hbl
    subst hbl
    refine h_s rfl ?_
    refine h_k (y := 24) rfl rfl ?_
    refine h2_ge rfl rfl (fun h26 => ?_) (fun h26 => absurd (nI_le (a := 24) (b := 24) (Nat.le_refl _) (by omega)) h26)
    refine h_s rfl ?_
    refine h1_ge rfl rfl (fun h66 => ?_) (fun h66 => ?_)
    · refine h_s rfl ?_
      have hb : ¬ b < 0 := by
        rw [lt_iff]
        rw [le_iff] at h66
        have : (0 : Int32).toInt = 0 := rfl
        omega
      exact h_ri rfl rfl (by rw [if_neg hb]; exact MP.same R0 _)
    · iterate 2 refine h_s rfl ?_
      refine hq_v rfl rfl rfl a54 rfl rfl (m_finds R0 3 (by omega) _ (by decide)) (fun v1 w1 q1 => ?_)
      obtain ⟨rfl, q2, q3⟩ := q1
      refine h_s rfl ?_
      have hb : b < 0 := by
        rw [lt_iff]
        rw [le_iff] at h66
        have : (0 : Int32).toInt = 0 := rfl
        omega
      exact h_ri rfl rfl (by rw [if_pos hb]; exact ⟨rfl, q2, q3⟩)
theorem ones_set {p : Nat → Bool} {m : Nat} (hm : m ≤ 8) : ∃ k, k < 256 ∧ bs p m = nI k ∧ cntR (bt (nI k)) 8 = cntR p m := by
  have hx : ∀ i, i < 32 → bt (bs p m) i = (decide (i < m) && p i) := fun i hi => bt_bs p m i (by omega) hi
  have hk : (bs p m).toBitVec.toNat < 256 := by
    have h1 : ∀ i, 8 ≤ i → (bs p m).toBitVec.toNat.testBit i = false := by
      intro i hi
      by_cases h32 : i < 32
      · have := hx i h32
        rw [show bt (bs p m) i = (bs p m).toBitVec.toNat.testBit i from rfl] at this
        rw [this, decide_eq_false (by omega)]
        rfl
      · exact Nat.testBit_lt_two_pow (Nat.lt_of_lt_of_le (bs p m).toBitVec.isLt (Nat.pow_le_pow_right (by omega) (by omega)))
    exact Nat.lt_pow_two_of_testBit _ h1
  have he : bs p m = nI (bs p m).toBitVec.toNat := by
    apply Int32.toBitVec_inj.mp
    apply BitVec.eq_of_toNat_eq
    rw [pk_tn (by omega)]
  have hc : ∀ q, q ≤ 8 → cntR (bt (bs p m)) q = cntR p (min q m) := by
    intro q hq
    induction q with
    | zero => rw [Nat.zero_min]; rfl
    | succ q ih =>
      rw [cntR, ih (by omega), hx q (by omega)]
      by_cases h : q < m
      · rw [Nat.min_eq_left (by omega), Nat.min_eq_left (by omega), cntR, decide_eq_true h, Bool.true_and]
      · rw [Nat.min_eq_right (by omega), Nat.min_eq_right (by omega), decide_eq_false h, Bool.false_and, if_neg (by decide), Nat.add_zero]
  refine ⟨_, hk, he, ?_⟩
  rw [← he, hc 8 (Nat.le_refl _), Nat.min_eq_right hm]
theorem m_onesB {p : Nat → Bool} {m : Nat} (hm : m ≤ 8) : ab_M X kX6_ones [.int (bs p m)] w (some (.int (nI (cntR p m)))) w := by
  obtain ⟨k, h1, h2, h3⟩ := ones_set (p := p) hm
  rw [h2, ← h3]
  exact m_ones k h1
end ME
