/-! THE REFERENCE: helps, needs, law -/
/-- off, if the houses of the set x gave f leave -/
def offG (s : List Int32) (n f : Nat) (c x : Int32) : Bool := offB (giveS s (bt x) f n) n f c
def needB (s : List Int32) (n f : Nat) (c : Int32) : Int32 × Nat := bestD (fun m => !offG s n f c (nI m)) (fun m => cntR (bt (nI m)) 8) (2 ^ n)
/-- what the law asks of the first m families -/
def lawO (s : List Int32) (n : Nat) (c : Int32) : Nat → Option Nat
  | 0 => some 0
  | m + 1 => match lawO s n c m with
    | none => none
    | some a => if (needB s n m c).1 < 0 then none else some (a + cntR (bt (needB s n m c).1) 8)
theorem lawO_none {s : List Int32} {n : Nat} {c : Int32} {i : Nat} (h : lawO s n c i = none) : ∀ d, lawO s n c (i + d) = none
  | 0 => h
  | d + 1 => by
    show lawO s n c (i + d + 1) = none
    rw [lawO, lawO_none h d]
theorem bestD_ok {p : Nat → Bool} {g : Nat → Nat} : ∀ {m : Nat}, ((bestD p g m).1 = -1) ∨ ∃ k, k < m ∧ (bestD p g m).1 = nI k ∧ (bestD p g m).2 = g k
  | 0 => Or.inl rfl
  | m + 1 => by
    rw [bestD]
    split
    · exact Or.inr ⟨m, by omega, rfl, rfl⟩
    · rcases bestD_ok (p := p) (g := g) (m := m) with h | ⟨k, h1, h2⟩
      · exact Or.inl h
      · exact Or.inr ⟨k, by omega, h2⟩
theorem sh_n : ∀ n, n ≤ 8 → (1 : Int32) <<< (nI n &&& 31) = nI (2 ^ n) := by decide +kernel
theorem pw_n : ∀ n, n ≤ 8 → 2 ^ n ≤ 256 := by decide +kernel
section MI
variable {X : List Int32} {w : ab_W} {s : List Int32} {n : Nat} {st ks : List Int32} {kp : Bool} {tp : List Int32} {tn : Nat} {bo so nu : List Int32}
set_option maxRecDepth 100000 in
set_option maxHeartbeats 4000000 in
theorem m_helps_z (R : MW w s n st ks kp tp tn bo so nu) (I : SI s n) (f c : Nat) (hf : f < n) (hc : c < 24) (ho : offB s n f (nI c) = false) : ab_Q X kX6_helps [.ref 54, .int (nI f), .int (nI c)] w (MP w 0 s n st ks kp tp tn bo so nu) := by
  have M := R.ms
  have R0 := R
  obtain ⟨oth, nz, mv, fr, to, vl, wr, a54, a55, a56, a57, a58, a59, a60, a61, a62, a63, a64, l, h0, hn, ht⟩ := R
  show ab_H X kX6_helps 0 [some (.ref 54), some (.int (nI f)), some (.int (nI c)), none, none] [] w _
  iterate 3 refine h_s rfl ?_
  refine h_cv rfl rfl rfl a54 rfl rfl (m_isAsk1 M ⟨f, by omega, rfl⟩ ⟨c, by omega, rfl⟩) ?_
  refine h_n (st2 := [_]) rfl ?_
  iterate 4 refine h_s rfl ?_
  refine h_cv rfl rfl rfl a54 rfl rfl (m_isOff M I f hf (nI c)) ?_
  refine h_n (st2 := [_]) rfl ?_
  refine hz_ne rfl rfl (fun h22 => absurd h22 (by rw [ho]; decide)) (fun h22 => ?_)
  refine h_k (y := 0) rfl rfl ?_
  exact h_ri rfl rfl (MP.same R0 _)
set_option maxRecDepth 100000 in
set_option maxHeartbeats 4000000 in
theorem m_helps_k (R : MW w s n st ks kp tp tn bo so nu) (I : SI s n) (f c : Nat) (hf : f < n) (hc : c < 24) (ho : offB s n f (nI c) = true) : ab_Q X kX6_helps [.ref 54, .int (nI f), .int (nI c)] w (MP w (bs (fun h => !offG s n f (nI c) ((1 : Int32) <<< (nI h &&& 31))) n) s n st ks kp tp tn bo so nu) := by
  have M := R.ms
  have R0 := R
  obtain ⟨oth, nz, mv, fr, to, vl, wr, a54, a55, a56, a57, a58, a59, a60, a61, a62, a63, a64, l, h0, hn, ht⟩ := R
  show ab_H X kX6_helps 0 [some (.ref 54), some (.int (nI f)), some (.int (nI c)), none, none] [] w _
  iterate 3 refine h_s rfl ?_
  refine h_cv rfl rfl rfl a54 rfl rfl (m_isAsk1 M ⟨f, by omega, rfl⟩ ⟨c, by omega, rfl⟩) ?_
  refine h_n (st2 := [_]) rfl ?_
  iterate 4 refine h_s rfl ?_
  refine h_cv rfl rfl rfl a54 rfl rfl (m_isOff M I f hf (nI c)) ?_
  refine h_n (st2 := [_]) rfl ?_
  refine hz_ne rfl rfl (fun h22 => ?_) (fun h22 => absurd h22 (by rw [ho]; decide))
  refine h_s rfl ?_
  refine hq_v rfl rfl rfl a54 rfl rfl (m_puts R0) (fun v1 w1 q1 => ?_)
  obtain ⟨rfl, R1, o1, F1⟩ := q1
  refine h_n (st2 := []) rfl ?_
  refine h_k (y := 0) rfl rfl ?_
  refine h_s rfl ?_
  refine h_k (y := 0) rfl rfl ?_
  refine h_s rfl ?_
  refine h_loop0 n (fun i ls w1 => (MW w1 s n st ks kp tp tn bo so nu ∧ w1[57]? = some (.inr s) ∧ ∀ j, j < 54 → w1[j]? = w[j]?) ∧ ls = [some (.ref 54), some (.int (nI f)), some (.int (nI c)), some (.int (bs (fun h => !offG s n f (nI c) ((1 : Int32) <<< (nI h &&& 31))) i)), some (.int (nI i))]) ⟨⟨R1, o1, fun j hj => F1 j (by omega)⟩, rfl⟩ (fun i ls w1 hi hJ ih => ?_) (fun ls w1 hJ => ?_)
  · obtain ⟨⟨R1, o1, F⟩, rfl⟩ := hJ
    obtain ⟨vs, b54, bv, bs55, -⟩ := R1.ms
    iterate 2 refine h_s rfl ?_
    refine h_gf rfl rfl rfl b54 bv ?_
    refine h_k (y := 0) rfl rfl ?_
    refine h_ia 0 rfl bs55 (by omega) rfl (by omega) ?_
    refine h_t h0 ?_
    refine h2_ge rfl rfl (fun h44 => absurd h44 (nI_ge hi (by omega))) (fun h44 => ?_)
    iterate 4 refine h_s rfl ?_
    refine h_k (y := 1) rfl rfl ?_
    iterate 2 refine h_s rfl ?_
    refine hq_v rfl rfl rfl b54 rfl rfl (m_isOffWith R1 I o1 f hf (nI c) ((1 : Int32) <<< (nI i &&& 31))) (fun v2 w2 q2 => ?_)
    obtain ⟨rfl, R2, -, F2⟩ := q2
    refine h_n (st2 := [_, _]) rfl ?_
    refine hz_eq rfl rfl (fun h58 => ?_) (fun h58 => ?_)
    · refine h_k (y := 1) rfl rfl ?_
      iterate 4 refine h_s rfl ?_
      refine h_ii rfl rfl rfl ?_
      refine h_s rfl ?_
      exact ih _ _ ⟨⟨R2, (F2 57 (by decide)).trans o1, fun j hj => (F2 j (by omega)).trans (F j hj)⟩, by first | (rw [← bs_succ_t (p := (fun h => !offG s n f (nI c) ((1 : Int32) <<< (nI h &&& 31)))) (show (!offG s n f (nI c) ((1 : Int32) <<< (nI i &&& 31))) = true by rw [show offG s n f (nI c) ((1 : Int32) <<< (nI i &&& 31)) = false from h58]; rfl)]; rfl) | (rw [← bs_succ_f0 (p := (fun h => !offG s n f (nI c) ((1 : Int32) <<< (nI h &&& 31)))) (show (!offG s n f (nI c) ((1 : Int32) <<< (nI i &&& 31))) = false by rw [show offG s n f (nI c) ((1 : Int32) <<< (nI i &&& 31)) = true from h58]; rfl)]; rfl)⟩
    · refine h_k (y := 0) rfl rfl ?_
      iterate 3 refine h_s rfl ?_
      refine h_ii rfl rfl rfl ?_
      refine h_s rfl ?_
      exact ih _ _ ⟨⟨R2, (F2 57 (by decide)).trans o1, fun j hj => (F2 j (by omega)).trans (F j hj)⟩, by first | (rw [← bs_succ_t (p := (fun h => !offG s n f (nI c) ((1 : Int32) <<< (nI h &&& 31)))) (show (!offG s n f (nI c) ((1 : Int32) <<< (nI i &&& 31))) = true by rw [show offG s n f (nI c) ((1 : Int32) <<< (nI i &&& 31)) = false from h58]; rfl)]; rfl) | (rw [← bs_succ_f0 (p := (fun h => !offG s n f (nI c) ((1 : Int32) <<< (nI h &&& 31)))) (show (!offG s n f (nI c) ((1 : Int32) <<< (nI i &&& 31))) = false by rw [show offG s n f (nI c) ((1 : Int32) <<< (nI i &&& 31)) = true from h58]; rfl)]; rfl)⟩
  · obtain ⟨⟨R1, o1, F⟩, rfl⟩ := hJ
    obtain ⟨vs, b54, bv, bs55, -⟩ := R1.ms
    iterate 2 refine h_s rfl ?_
    refine h_gf rfl rfl rfl b54 bv ?_
    refine h_k (y := 0) rfl rfl ?_
    refine h_ia 0 rfl bs55 (by omega) rfl (by omega) ?_
    refine h_t h0 ?_
    refine h2_ge rfl rfl (fun h44 => ?_) (fun h44 => absurd (nI_le (Nat.le_refl _) (by omega)) h44)
    refine h_s rfl ?_
    exact h_ri rfl rfl ⟨rfl, R1, F⟩
set_option maxRecDepth 100000 in
set_option maxHeartbeats 4000000 in
theorem m_needed (R : MW w s n st ks kp tp tn bo so nu) (I : SI s n) (f c : Nat) (hf : f < n) : ab_Q X kX6_needed [.ref 54, .int (nI f), .int (nI c)] w (MP w (needB s n f (nI c)).1 s n st ks kp tp tn bo so nu) := by
  have M := R.ms
  have R0 := R
  obtain ⟨oth, nz, mv, fr, to, vl, wr, a54, a55, a56, a57, a58, a59, a60, a61, a62, a63, a64, l, h0, hn, ht⟩ := R
  show ab_H X kX6_needed 0 [some (.ref 54), some (.int (nI f)), some (.int (nI c)), none, none] [] w _
  refine h_s rfl ?_
  refine hq_v rfl rfl rfl a54 rfl rfl (m_puts R0) (fun v1 w1 q1 => ?_)
  obtain ⟨rfl, R1, o1, F1⟩ := q1
  refine h_n (st2 := []) rfl ?_
  refine h_k (y := (-1)) rfl rfl ?_
  refine h_s rfl ?_
  refine h_k (y := 0) rfl rfl ?_
  refine h_s rfl ?_
  refine h_loop0 (2 ^ n) (fun i ls w1 => (MW w1 s n st ks kp tp tn bo so nu ∧ w1[57]? = some (.inr s) ∧ ∀ j, j < 54 → w1[j]? = w[j]?) ∧ ∃ b lw, bestD (fun m => !offG s n f (nI c) (nI m)) (fun m => cntR (bt (nI m)) 8) i = (b, lw) ∧ (b = -1 ∨ ∃ k, k < i ∧ b = nI k ∧ lw = cntR (bt (nI k)) 8) ∧ ls = [some (.ref 54), some (.int (nI f)), some (.int (nI c)), some (.int b), some (.int (nI i))]) ⟨⟨R1, o1, fun j hj => F1 j (by omega)⟩, -1, 0, rfl, Or.inl rfl, rfl⟩ (fun i ls w1 hi hJ ih => ?_) (fun ls w1 hJ => ?_)
  · obtain ⟨⟨R1, o1, F⟩, b, lw, hbl, hbk, rfl⟩ := hJ
    obtain ⟨vs, b54, bv, bs55, -⟩ := R1.ms
    have hpw := pw_n n hn
    have c1 := cntR_le (bt (nI i)) 8
    refine h_s rfl ?_
    refine h_k (y := 1) rfl rfl ?_
    refine h_s rfl ?_
    refine h_gf rfl rfl rfl b54 bv ?_
    refine h_k (y := 0) rfl rfl ?_
    refine h_ia 0 rfl bs55 (by omega) rfl (by omega) ?_
    refine h_t h0 ?_
    refine h_s rfl ?_
    refine h_t (sh_n n hn) ?_
    refine h2_ge rfl rfl (fun h19 => absurd h19 (nI_ge hi (by omega))) (fun h19 => ?_)
    refine h_s rfl ?_
    refine h1_lt rfl rfl (fun h23 => ?_) (fun h23 => ?_)
    · iterate 4 refine h_s rfl ?_
      refine hq_v rfl rfl rfl b54 rfl rfl (m_isOffWith R1 I o1 f hf (nI c) (nI i)) (fun v2 w2 q2 => ?_)
      obtain ⟨rfl, R2, -, F2⟩ := q2
      refine h_n (st2 := [_]) rfl ?_
      refine hz_ne rfl rfl (fun h46 => ?_) (fun h46 => ?_)
      · iterate 2 refine h_s rfl ?_
        refine h_ii rfl rfl rfl ?_
        refine h_s rfl ?_
        have e : bestD (fun m => !offG s n f (nI c) (nI m)) (fun m => cntR (bt (nI m)) 8) (i + 1) = if (!offG s n f (nI c) (nI i)) = true ∧ (b < 0 ∨ cntR (bt (nI i)) 8 < lw) then (nI i, cntR (bt (nI i)) 8) else (b, lw) := by
          show (if (!offG s n f (nI c) (nI i)) = true ∧ ((bestD (fun m => !offG s n f (nI c) (nI m)) (fun m => cntR (bt (nI m)) 8) i).1 < 0 ∨ cntR (bt (nI i)) 8 < (bestD (fun m => !offG s n f (nI c) (nI m)) (fun m => cntR (bt (nI m)) 8) i).2) then (nI i, cntR (bt (nI i)) 8) else bestD (fun m => !offG s n f (nI c) (nI m)) (fun m => cntR (bt (nI m)) 8) i) = _
          rw [hbl]
        first
          | (rw [if_pos (show (!offG s n f (nI c) (nI i)) = true ∧ (b < 0 ∨ cntR (bt (nI i)) 8 < lw) from ⟨by rw [show offG s n f (nI c) (nI i) = false from h46]; rfl, Or.inl h23⟩)] at e; exact ih _ _ ⟨⟨R2, (F2 57 (by decide)).trans o1, fun j hj => (F2 j (by omega)).trans (F j hj)⟩, _, _, e, Or.inr ⟨i, by omega, rfl, rfl⟩, rfl⟩)
          | (rw [if_neg (show ¬ ((!offG s n f (nI c) (nI i)) = true ∧ (b < 0 ∨ cntR (bt (nI i)) 8 < lw)) from fun q => absurd q.1 (by rw [show offG s n f (nI c) (nI i) = true from h46]; decide))] at e; exact ih _ _ ⟨⟨R2, (F2 57 (by decide)).trans o1, fun j hj => (F2 j (by omega)).trans (F j hj)⟩, b, lw, e, hbk.imp id (fun ⟨k, a1, a2⟩ => ⟨k, by omega, a2⟩), rfl⟩)
      · iterate 3 refine h_s rfl ?_
        refine h_ii rfl rfl rfl ?_
        refine h_s rfl ?_
        have e : bestD (fun m => !offG s n f (nI c) (nI m)) (fun m => cntR (bt (nI m)) 8) (i + 1) = if (!offG s n f (nI c) (nI i)) = true ∧ (b < 0 ∨ cntR (bt (nI i)) 8 < lw) then (nI i, cntR (bt (nI i)) 8) else (b, lw) := by
          show (if (!offG s n f (nI c) (nI i)) = true ∧ ((bestD (fun m => !offG s n f (nI c) (nI m)) (fun m => cntR (bt (nI m)) 8) i).1 < 0 ∨ cntR (bt (nI i)) 8 < (bestD (fun m => !offG s n f (nI c) (nI m)) (fun m => cntR (bt (nI m)) 8) i).2) then (nI i, cntR (bt (nI i)) 8) else bestD (fun m => !offG s n f (nI c) (nI m)) (fun m => cntR (bt (nI m)) 8) i) = _
          rw [hbl]
        first
          | (rw [if_pos (show (!offG s n f (nI c) (nI i)) = true ∧ (b < 0 ∨ cntR (bt (nI i)) 8 < lw) from ⟨by rw [show offG s n f (nI c) (nI i) = false from h46]; rfl, Or.inl h23⟩)] at e; exact ih _ _ ⟨⟨R2, (F2 57 (by decide)).trans o1, fun j hj => (F2 j (by omega)).trans (F j hj)⟩, _, _, e, Or.inr ⟨i, by omega, rfl, rfl⟩, rfl⟩)
          | (rw [if_neg (show ¬ ((!offG s n f (nI c) (nI i)) = true ∧ (b < 0 ∨ cntR (bt (nI i)) 8 < lw)) from fun q => absurd q.1 (by rw [show offG s n f (nI c) (nI i) = true from h46]; decide))] at e; exact ih _ _ ⟨⟨R2, (F2 57 (by decide)).trans o1, fun j hj => (F2 j (by omega)).trans (F j hj)⟩, b, lw, e, hbk.imp id (fun ⟨k, a1, a2⟩ => ⟨k, by omega, a2⟩), rfl⟩)
    · refine h_s rfl ?_
      have hk : ∃ k, k < 256 ∧ b = nI k ∧ lw = cntR (bt (nI k)) 8 := by
        rcases hbk with rfl | ⟨k, a1, a2⟩
        · exact absurd (by decide) h23
        · exact ⟨k, by omega, a2⟩
      obtain ⟨k, hk1, hk2, hk3⟩ := hk
      have c2 := cntR_le (bt (nI k)) 8
      refine h_c rfl (m_ones i (by omega)) ?_
      refine h_n (st2 := [_]) rfl ?_
      refine h_s rfl ?_
      refine h_c rfl (show ab_M X kX6_ones [.int b] w1 (some (.int (nI lw))) w1 by rw [hk2, hk3]; exact m_ones k hk1) ?_
      refine h_n (st2 := [_, _]) rfl ?_
      refine h2_ge rfl rfl (fun h35 => ?_) (fun h35 => ?_)
      · iterate 2 refine h_s rfl ?_
        refine h_ii rfl rfl rfl ?_
        refine h_s rfl ?_
        have e : bestD (fun m => !offG s n f (nI c) (nI m)) (fun m => cntR (bt (nI m)) 8) (i + 1) = if (!offG s n f (nI c) (nI i)) = true ∧ (b < 0 ∨ cntR (bt (nI i)) 8 < lw) then (nI i, cntR (bt (nI i)) 8) else (b, lw) := by
          show (if (!offG s n f (nI c) (nI i)) = true ∧ ((bestD (fun m => !offG s n f (nI c) (nI m)) (fun m => cntR (bt (nI m)) 8) i).1 < 0 ∨ cntR (bt (nI i)) 8 < (bestD (fun m => !offG s n f (nI c) (nI m)) (fun m => cntR (bt (nI m)) 8) i).2) then (nI i, cntR (bt (nI i)) 8) else bestD (fun m => !offG s n f (nI c) (nI m)) (fun m => cntR (bt (nI m)) 8) i) = _
          rw [hbl]
        rw [nI_leI (by omega) (by omega)] at h35
        rw [if_neg (show ¬ ((!offG s n f (nI c) (nI i)) = true ∧ (b < 0 ∨ cntR (bt (nI i)) 8 < lw)) from fun q => q.2.elim h23 (by omega))] at e
        exact ih _ _ ⟨⟨R1, o1, F⟩, b, lw, e, hbk.imp id (fun ⟨k, a1, a2⟩ => ⟨k, by omega, a2⟩), rfl⟩
      · iterate 4 refine h_s rfl ?_
        refine hq_v rfl rfl rfl b54 rfl rfl (m_isOffWith R1 I o1 f hf (nI c) (nI i)) (fun v2 w2 q2 => ?_)
        obtain ⟨rfl, R2, -, F2⟩ := q2
        refine h_n (st2 := [_]) rfl ?_
        refine hz_ne rfl rfl (fun h46 => ?_) (fun h46 => ?_)
        · iterate 2 refine h_s rfl ?_
          refine h_ii rfl rfl rfl ?_
          refine h_s rfl ?_
          have e : bestD (fun m => !offG s n f (nI c) (nI m)) (fun m => cntR (bt (nI m)) 8) (i + 1) = if (!offG s n f (nI c) (nI i)) = true ∧ (b < 0 ∨ cntR (bt (nI i)) 8 < lw) then (nI i, cntR (bt (nI i)) 8) else (b, lw) := by
            show (if (!offG s n f (nI c) (nI i)) = true ∧ ((bestD (fun m => !offG s n f (nI c) (nI m)) (fun m => cntR (bt (nI m)) 8) i).1 < 0 ∨ cntR (bt (nI i)) 8 < (bestD (fun m => !offG s n f (nI c) (nI m)) (fun m => cntR (bt (nI m)) 8) i).2) then (nI i, cntR (bt (nI i)) 8) else bestD (fun m => !offG s n f (nI c) (nI m)) (fun m => cntR (bt (nI m)) 8) i) = _
            rw [hbl]
          rw [nI_leI (by omega) (by omega)] at h35
          first
            | (rw [if_pos (show (!offG s n f (nI c) (nI i)) = true ∧ (b < 0 ∨ cntR (bt (nI i)) 8 < lw) from ⟨by rw [show offG s n f (nI c) (nI i) = false from h46]; rfl, Or.inr (by omega)⟩)] at e; exact ih _ _ ⟨⟨R2, (F2 57 (by decide)).trans o1, fun j hj => (F2 j (by omega)).trans (F j hj)⟩, _, _, e, Or.inr ⟨i, by omega, rfl, rfl⟩, rfl⟩)
            | (rw [if_neg (show ¬ ((!offG s n f (nI c) (nI i)) = true ∧ (b < 0 ∨ cntR (bt (nI i)) 8 < lw)) from fun q => absurd q.1 (by rw [show offG s n f (nI c) (nI i) = true from h46]; decide))] at e; exact ih _ _ ⟨⟨R2, (F2 57 (by decide)).trans o1, fun j hj => (F2 j (by omega)).trans (F j hj)⟩, b, lw, e, hbk.imp id (fun ⟨k, a1, a2⟩ => ⟨k, by omega, a2⟩), rfl⟩)
        · iterate 3 refine h_s rfl ?_
          refine h_ii rfl rfl rfl ?_
          refine h_s rfl ?_
          have e : bestD (fun m => !offG s n f (nI c) (nI m)) (fun m => cntR (bt (nI m)) 8) (i + 1) = if (!offG s n f (nI c) (nI i)) = true ∧ (b < 0 ∨ cntR (bt (nI i)) 8 < lw) then (nI i, cntR (bt (nI i)) 8) else (b, lw) := by
            show (if (!offG s n f (nI c) (nI i)) = true ∧ ((bestD (fun m => !offG s n f (nI c) (nI m)) (fun m => cntR (bt (nI m)) 8) i).1 < 0 ∨ cntR (bt (nI i)) 8 < (bestD (fun m => !offG s n f (nI c) (nI m)) (fun m => cntR (bt (nI m)) 8) i).2) then (nI i, cntR (bt (nI i)) 8) else bestD (fun m => !offG s n f (nI c) (nI m)) (fun m => cntR (bt (nI m)) 8) i) = _
            rw [hbl]
          rw [nI_leI (by omega) (by omega)] at h35
          first
            | (rw [if_pos (show (!offG s n f (nI c) (nI i)) = true ∧ (b < 0 ∨ cntR (bt (nI i)) 8 < lw) from ⟨by rw [show offG s n f (nI c) (nI i) = false from h46]; rfl, Or.inr (by omega)⟩)] at e; exact ih _ _ ⟨⟨R2, (F2 57 (by decide)).trans o1, fun j hj => (F2 j (by omega)).trans (F j hj)⟩, _, _, e, Or.inr ⟨i, by omega, rfl, rfl⟩, rfl⟩)
            | (rw [if_neg (show ¬ ((!offG s n f (nI c) (nI i)) = true ∧ (b < 0 ∨ cntR (bt (nI i)) 8 < lw)) from fun q => absurd q.1 (by rw [show offG s n f (nI c) (nI i) = true from h46]; decide))] at e; exact ih _ _ ⟨⟨R2, (F2 57 (by decide)).trans o1, fun j hj => (F2 j (by omega)).trans (F j hj)⟩, b, lw, e, hbk.imp id (fun ⟨k, a1, a2⟩ => ⟨k, by omega, a2⟩), rfl⟩)
  · obtain ⟨⟨R1, o1, F⟩, b, lw, hbl, hbk, rfl⟩ := hJ
    obtain ⟨vs, b54, bv, bs55, -⟩ := R1.ms
    have hB : needB s n f (nI c) = (b, lw) := hbl
    have hpw := pw_n n hn
    rw [hB]
    refine h_s rfl ?_
    refine h_k (y := 1) rfl rfl ?_
    refine h_s rfl ?_
    refine h_gf rfl rfl rfl b54 bv ?_
    refine h_k (y := 0) rfl rfl ?_
    refine h_ia 0 rfl bs55 (by omega) rfl (by omega) ?_
    refine h_t h0 ?_
    refine h_s rfl ?_
    refine h_t (sh_n n hn) ?_
    refine h2_ge rfl rfl (fun h19 => ?_) (fun h19 => absurd (nI_le (Nat.le_refl _) (by omega)) h19)
    refine h_s rfl ?_
    exact h_ri rfl rfl ⟨rfl, R1, F⟩
end MI
