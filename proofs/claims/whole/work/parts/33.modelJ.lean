/-! THE REFERENCE: needs, law; ring; seeds and shifts -/
theorem neg_of {x : Int32} (h : ¬ 0 ≤ x) : x < 0 := by
  rw [lt_iff]
  rw [le_iff] at h
  have : (0 : Int32).toInt = 0 := rfl
  omega
theorem neg_n {x : Int32} (h : 0 ≤ x) : ¬ x < 0 := by
  rw [lt_iff]
  rw [le_iff] at h
  have : (0 : Int32).toInt = 0 := rfl
  omega
section MJ
variable {X : List Int32} {w : ab_W} {s : List Int32} {n : Nat} {st ks : List Int32} {kp : Bool} {tp : List Int32} {tn : Nat} {bo so nu : List Int32}
set_option maxRecDepth 100000 in
set_option maxHeartbeats 4000000 in
theorem m_needs_k (R : MW w s n st ks kp tp tn bo so nu) (I : SI s n) (f c : Nat) (hf : f < n) (hc : c < 24) (B : Int32) (hB : (needB s n f (nI c)).1 = B) : ab_Q X kX6_needs [.ref 54, .int (nI f), .int (nI c)] w (fun v w1 => if B < 0 then MP w (-1000004) s n (bump st 3) ks kp tp tn bo so nu v w1 else MP w B s n st ks kp tp tn bo so nu v w1) := by
  have M := R.ms
  have R0 := R
  obtain ⟨oth, nz, mv, fr, to, vl, wr, a54, a55, a56, a57, a58, a59, a60, a61, a62, a63, a64, l, h0, hn, ht⟩ := R
  show ab_H X kX6_needs 0 [some (.ref 54), some (.int (nI f)), some (.int (nI c)), none] [] w _
  iterate 3 refine h_s rfl ?_
  refine h_cv rfl rfl rfl a54 rfl rfl (m_isAsk1 M ⟨f, by omega, rfl⟩ ⟨c, by omega, rfl⟩) ?_
  refine h_n (st2 := [_]) rfl ?_
  iterate 4 refine h_s rfl ?_
  refine hq_v rfl rfl rfl a54 rfl rfl (m_needed R0 I f c hf) (fun v1 w1 q1 => ?_)
  obtain ⟨rfl, R1, F⟩ := q1
  rw [hB]
  obtain ⟨vs, b54, -⟩ := R1.ms
  refine h_n (st2 := [_]) rfl ?_
  iterate 2 refine h_s rfl ?_
  refine h1_ge rfl rfl (fun h24 => ?_) (fun h24 => ?_)
  · refine h_s rfl ?_
    exact h_ri rfl rfl (by rw [if_neg (neg_n h24)]; exact ⟨rfl, R1, F⟩)
  · iterate 2 refine h_s rfl ?_
    refine hq_v rfl rfl rfl b54 rfl rfl (m_finds R1 3 (by omega) _ (by decide)) (fun v1 w1 q1 => ?_)
    obtain ⟨rfl, q2, q3⟩ := q1
    refine h_n (st2 := [_]) rfl ?_
    refine h_s rfl ?_
    exact h_ri rfl rfl (by rw [if_pos (neg_of h24)]; exact ⟨rfl, q2, fun i hi => (q3 i hi).trans (F i hi)⟩)
set_option maxRecDepth 100000 in
set_option maxHeartbeats 4000000 in
theorem m_law_k (R : MW w s n st ks kp tp tn bo so nu) (I : SI s n) (c : Nat) (hc : c < 24) (L : Option Nat) (hL : lawO s n (nI c) n = L) : ab_Q X kX6_law [.ref 54, .int (nI c)] w (fun v w1 => match L with
    | none => MP w (-1000004) s n (bump st 3) ks kp tp tn bo so nu v w1
    | some a => MP w (nI a) s n st ks kp tp tn bo so nu v w1) := by
  have M := R.ms
  have R0 := R
  obtain ⟨oth, nz, mv, fr, to, vl, wr, a54, a55, a56, a57, a58, a59, a60, a61, a62, a63, a64, l, h0, hn, ht⟩ := R
  show ab_H X kX6_law 0 [some (.ref 54), some (.int (nI c)), none, none, none] [] w _
  refine h_s rfl ?_
  refine h_c rfl (m_isClock1 ⟨c, by omega, rfl⟩) ?_
  refine h_n (st2 := [_]) rfl ?_
  refine h_s rfl ?_
  refine h_k (y := 0) rfl rfl ?_
  refine h_s rfl ?_
  refine h_k (y := 0) rfl rfl ?_
  refine h_s rfl ?_
  refine h_loop0 n (fun i ls w1 => (MW w1 s n st ks kp tp tn bo so nu ∧ ∀ j, j < 54 → w1[j]? = w[j]?) ∧ ∃ x y, ((x = -1 ∧ lawO s n (nI c) i = none) ∨ ∃ a, x = nI a ∧ lawO s n (nI c) i = some a ∧ a ≤ 8 * i) ∧ ls = [some (.ref 54), some (.int (nI c)), some (.int x), some (.int (nI i)), y]) ⟨⟨R0, fun j hj => rfl⟩, 0, none, Or.inr ⟨0, rfl, rfl, by omega⟩, rfl⟩ (fun i ls w1 hi hJ ih => ?_) (fun ls w1 hJ => ?_)
  · obtain ⟨⟨R1, F⟩, x, y, hx, rfl⟩ := hJ
    have R10 := R1
    obtain ⟨vs, b54, bv, bs55, -⟩ := R1.ms
    rcases hx with ⟨rfl, hn0⟩ | ⟨a, rfl, ha, ha8⟩
    · have hN : L = none := by have q := lawO_none hn0 (n - i); rw [show i + (n - i) = n by omega] at q; exact hL.symm.trans q
      subst hN
      iterate 2 refine h_s rfl ?_
      refine h_gf rfl rfl rfl b54 bv ?_
      refine h_k (y := 0) rfl rfl ?_
      refine h_ia 0 rfl bs55 (by omega) rfl (by omega) ?_
      refine h_t h0 ?_
      refine h2_ge rfl rfl (fun h25 => absurd h25 (nI_ge hi (by omega))) (fun h25 => ?_)
      iterate 6 refine h_s rfl ?_
      refine hq_v rfl rfl rfl b54 rfl rfl (m_finds R10 3 (by omega) _ (by decide)) (fun v1 w1 q1 => ?_)
      obtain ⟨rfl, q2, q3⟩ := q1
      refine h_n (st2 := [_]) rfl ?_
      refine h_s rfl ?_
      exact h_ri rfl rfl ⟨rfl, q2, fun i hi => (q3 i hi).trans (F i hi)⟩
    · obtain ⟨B, hB⟩ : ∃ B, (needB s n i (nI c)).1 = B := ⟨_, rfl⟩
      have hB2 : B = -1 ∨ ∃ k, k < 256 ∧ B = nI k := by
        rw [← hB]
        rcases bestD_ok (p := fun m => !offG s n i (nI c) (nI m)) (g := fun m => cntR (bt (nI m)) 8) (m := 2 ^ n) with h | ⟨k, h1, h2, -⟩
        · exact Or.inl h
        · have := pw_n n hn
          exact Or.inr ⟨k, by omega, h2⟩
      have c1 := cntR_le (bt B) 8
      iterate 2 refine h_s rfl ?_
      refine h_gf rfl rfl rfl b54 bv ?_
      refine h_k (y := 0) rfl rfl ?_
      refine h_ia 0 rfl bs55 (by omega) rfl (by omega) ?_
      refine h_t h0 ?_
      refine h2_ge rfl rfl (fun h25 => absurd h25 (nI_ge hi (by omega))) (fun h25 => ?_)
      refine h_s rfl ?_
      refine h1_lt rfl rfl (fun h29 => absurd h29 (nI_pos (by omega))) (fun h29 => ?_)
      iterate 3 refine h_s rfl ?_
      refine hq_v rfl rfl rfl b54 rfl rfl (m_needed R10 I i c hi) (fun v2 w2 q2 => ?_)
      obtain ⟨rfl, R2, F2'⟩ := q2
      have F2 : ∀ j, j < 54 → w2[j]? = w[j]? := fun j hj => (F2' j hj).trans (F j hj)
      rw [hB]
      refine h_n (st2 := [_]) rfl ?_
      iterate 2 refine h_s rfl ?_
      refine h1_ge rfl rfl (fun h42 => ?_) (fun h42 => ?_)
      · iterate 2 refine h_s rfl ?_
        have hk : ∃ k, k < 256 ∧ B = nI k := hB2.resolve_left (fun q => by rw [q] at h42; exact absurd h42 (by decide))
        obtain ⟨k, hk1, hk2⟩ := hk
        refine h_c rfl (show ab_M X kX6_ones [.int B] w2 (some (.int (nI (cntR (bt B) 8)))) w2 by rw [hk2]; exact m_ones k hk1) ?_
        refine h_n (st2 := [_, _]) rfl ?_
        iterate 2 refine h_s rfl ?_
        refine h_ii rfl rfl rfl ?_
        refine h_s rfl ?_
        first
          | (have e : lawO s n (nI c) (i + 1) = none := by rw [lawO, ha]; dsimp only; rw [hB, if_pos (neg_of h42)]
             exact ih _ _ ⟨⟨R2, F2⟩, -1, _, Or.inl ⟨rfl, e⟩, rfl⟩)
          | (have e : lawO s n (nI c) (i + 1) = some (a + cntR (bt B) 8) := by rw [lawO, ha]; dsimp only; rw [hB, if_neg (neg_n h42)]
             exact ih _ _ ⟨⟨R2, F2⟩, _, _, Or.inr ⟨_, rfl, e, by omega⟩, by rw [nI_add]; rfl⟩)
      · refine h_k (y := (-1)) rfl rfl ?_
        iterate 2 refine h_s rfl ?_
        refine h_ii rfl rfl rfl ?_
        refine h_s rfl ?_
        first
          | (have e : lawO s n (nI c) (i + 1) = none := by rw [lawO, ha]; dsimp only; rw [hB, if_pos (neg_of h42)]
             exact ih _ _ ⟨⟨R2, F2⟩, -1, _, Or.inl ⟨rfl, e⟩, rfl⟩)
          | (have e : lawO s n (nI c) (i + 1) = some (a + cntR (bt B) 8) := by rw [lawO, ha]; dsimp only; rw [hB, if_neg (neg_n h42)]
             exact ih _ _ ⟨⟨R2, F2⟩, _, _, Or.inr ⟨_, rfl, e, by omega⟩, by rw [nI_add]; rfl⟩)
  · obtain ⟨⟨R1, F⟩, x, y, hx, rfl⟩ := hJ
    have R10 := R1
    obtain ⟨vs, b54, bv, bs55, -⟩ := R1.ms
    rcases hx with ⟨rfl, hn0⟩ | ⟨a, rfl, ha, ha8⟩
    · rw [hn0] at hL
      subst hL
      iterate 2 refine h_s rfl ?_
      refine h_gf rfl rfl rfl b54 bv ?_
      refine h_k (y := 0) rfl rfl ?_
      refine h_ia 0 rfl bs55 (by omega) rfl (by omega) ?_
      refine h_t h0 ?_
      refine h2_ge rfl rfl (fun h25 => ?_) (fun h25 => absurd (nI_le (Nat.le_refl _) (by omega)) h25)
      iterate 4 refine h_s rfl ?_
      refine hq_v rfl rfl rfl b54 rfl rfl (m_finds R10 3 (by omega) _ (by decide)) (fun v1 w1 q1 => ?_)
      obtain ⟨rfl, q2, q3⟩ := q1
      refine h_n (st2 := [_]) rfl ?_
      refine h_s rfl ?_
      exact h_ri rfl rfl ⟨rfl, q2, fun i hi => (q3 i hi).trans (F i hi)⟩
    · rw [ha] at hL
      subst hL
      iterate 2 refine h_s rfl ?_
      refine h_gf rfl rfl rfl b54 bv ?_
      refine h_k (y := 0) rfl rfl ?_
      refine h_ia 0 rfl bs55 (by omega) rfl (by omega) ?_
      refine h_t h0 ?_
      refine h2_ge rfl rfl (fun h25 => ?_) (fun h25 => absurd (nI_le (Nat.le_refl _) (by omega)) h25)
      refine h_s rfl ?_
      refine h1_ge rfl rfl (fun h64 => ?_) (fun h64 => absurd (nI_pos' (by omega)) h64)
      refine h_s rfl ?_
      exact h_ri rfl rfl ⟨rfl, R1, F⟩
end MJ
