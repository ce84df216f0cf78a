/-! THE REFERENCE: who stands by a room -/
theorem stB_m1 {s : List Int32} {n i r q : Nat} (hr : r < 16) (hq : q < 16) (h : fld s i 1 = -1) : stB s n i r q = false := by
  have e : ∀ k, k < 16 → ¬ (-1 : Int32) = nI k := by decide
  unfold stB
  rw [h, decide_eq_false (e (q / 2) (by omega)), decide_eq_false (e (r / 2) (by omega))]
  simp
theorem stB_t {s : List Int32} {n i r q t : Nat} (hr : r < 16) (hq : q < 16) (ht : t < 8) (h : fld s i 1 = nI t) : stB s n i r q = (decide (r = 2 * i ∧ q = 2 * t + 1 ∧ t < n) || decide (q = 2 * i ∧ r = 2 * t + 1 ∧ t < n)) := by
  unfold stB
  rw [h, Bool.eq_iff_iff]
  simp only [Bool.and_eq_true, Bool.or_eq_true, decide_eq_true_eq, nI_eq (show t < 2 ^ 31 by omega) (show q / 2 < 2 ^ 31 by omega), nI_eq (show t < 2 ^ 31 by omega) (show r / 2 < 2 ^ 31 by omega)]
  omega
section M4
variable {X : List Int32} {w : ab_W} {s : List Int32} {n : Nat}
theorem any_t {B : Nat → Bool} {F : Nat → Nat → Bool} {i j : Nat} (hj : j < 16) (h : ∀ q, q < 16 → F i q = decide (q = j)) : bs (fun q => B q || anyR (fun g => F g q) i) 16 ||| (1 : Int32) <<< (nI j &&& 31) = bs (fun q => B q || anyR (fun g => F g q) (i + 1)) 16 :=
  bs_or1 (by omega) hj (fun q hq => by rw [anyR, h q hq, Bool.or_assoc])
theorem any_f {B : Nat → Bool} {F : Nat → Nat → Bool} {i : Nat} (h : ∀ q, q < 16 → F i q = false) : bs (fun q => B q || anyR (fun g => F g q) i) 16 = bs (fun q => B q || anyR (fun g => F g q) (i + 1)) 16 :=
  bs_cong (fun q hq => by rw [anyR, h q hq, Bool.or_false])
set_option maxRecDepth 100000 in
set_option maxHeartbeats 4000000 in
theorem m_j830 (M : MS w s n) (I : SI s n) (h : Nat) (hh : h < n) (B : Nat → Bool) (xs : Int32) (hx : xs = bs B 16) : ab_G X kX6_joinedTo 83 [some (.ref 54), some (.int (nI (2 * h))), some (.int (nI h)), some (.int 0), some (.int xs), none, none] [] w (some (.int (bs (fun q => B q || anyR (fun g => stB s n g (2 * h) q) n) 16))) w := by
  obtain ⟨vs, hm, hv, hs, hl, h0, hn⟩ := id M
  refine ab_k (y := 0) rfl rfl ?_
  refine ab_s rfl ?_
  refine g_loop0 n (fun i ls => ∃ x, ls = [some (.ref 54), some (.int (nI (2 * h))), some (.int (nI h)), some (.int 0), some (.int (bs (fun q => B q || anyR (fun g => stB s n g (2 * h) q) i) 16)), some (.int (nI i)), x]) ⟨none, by rw [hx, show bs B 16 = bs (fun q => B q || anyR (fun g => stB s n g (2 * h) q) 0) 16 from bs_cong (fun q _ => by rw [anyR, Bool.or_false])]; rfl⟩ (fun i ls hi hJ ih => ?_) (fun ls hJ => ?_)
  · obtain ⟨x, rfl⟩ := hJ
    have m1N : ¬ isN (-1 : Int32) n := by
      rw [isN_iff (by omega)]
      intro q
      exact absurd q.1 (by decide)
    rcases (I.1 i hi).2.1 with ht | ⟨t, ht8, ht, htt⟩
    · skip
      iterate 2 refine ab_s rfl ?_
      refine ab_gf rfl rfl rfl hm hv ?_
      refine ab_k (y := 0) rfl rfl ?_
      refine ab_ia 0 rfl hs (by omega) rfl (by omega) ?_
      refine ab_t h0 ?_
      refine j2_ge rfl rfl (fun h94 => absurd h94 (nI_ge hi (by omega))) (fun h94 => ?_)
      iterate 2 refine ab_s rfl ?_
      refine ab_k (y := 1) rfl rfl ?_
      refine ab_cv rfl rfl rfl hm rfl rfl (m_its M i 1 (by omega) (by omega) rfl rfl) ?_
      refine ab_t ht ?_
      iterate 3 refine ab_s rfl ?_
      refine ab_cv rfl rfl rfl hm rfl rfl (m_isHouse0 M (fun q => absurd q m1N)) ?_
      refine ab_s rfl ?_
      refine ab_ii rfl rfl rfl ?_
      refine ab_s rfl ?_
      exact ih _ ⟨_, by rw [← any_f (B := B) (F := (fun g q => stB s n g (2 * h) q)) (i := i) (fun q hq => stB_m1 (by omega) hq ht)]; rfl⟩
    by_cases htn : t < n
    · skip
      iterate 2 refine ab_s rfl ?_
      refine ab_gf rfl rfl rfl hm hv ?_
      refine ab_k (y := 0) rfl rfl ?_
      refine ab_ia 0 rfl hs (by omega) rfl (by omega) ?_
      refine ab_t h0 ?_
      refine j2_ge rfl rfl (fun h94 => absurd h94 (nI_ge hi (by omega))) (fun h94 => ?_)
      iterate 2 refine ab_s rfl ?_
      refine ab_k (y := 1) rfl rfl ?_
      refine ab_cv rfl rfl rfl hm rfl rfl (m_its M i 1 (by omega) (by omega) rfl rfl) ?_
      refine ab_t ht ?_
      iterate 3 refine ab_s rfl ?_
      refine ab_cv rfl rfl rfl hm rfl rfl (m_isHouse1 M ⟨t, htn, rfl⟩) ?_
      iterate 6 refine ab_s rfl ?_
      refine j2_ne rfl rfl (fun h124 => ?_) (fun h124 => ?_)
      · refine ab_k (y := 0) rfl rfl ?_
        iterate 4 refine ab_s rfl ?_
        refine ab_k (y := 1) rfl rfl ?_
        refine ab_s rfl ?_
        refine ab_k (y := 0) rfl rfl ?_
        iterate 2 refine ab_s rfl ?_
        refine ab_ii rfl rfl rfl ?_
        refine ab_s rfl ?_
        try rw [nI_eq (by omega) (by omega)] at h124
        exact ih _ ⟨_, by first | (rw [or_0, any_t (B := B) (F := (fun g q => stB s n g (2 * h) q)) (i := i) (j := (2 * t + 1)) (by omega) (fun q hq => by rw [stB_t (by omega) hq ht8 ht, Bool.eq_iff_iff]; simp only [Bool.or_eq_true, decide_eq_true_eq]; omega)]; rfl) | (rw [or_0, or_0, any_f (B := B) (F := (fun g q => stB s n g (2 * h) q)) (i := i) (fun q hq => by rw [stB_t (by omega) hq ht8 ht, Bool.eq_false_iff]; simp only [ne_eq, Bool.or_eq_true, decide_eq_true_eq]; omega)]; rfl)⟩
      · refine ab_k (y := 1) rfl rfl ?_
        refine ab_k (y := 2) rfl rfl ?_
        refine ab_s rfl ?_
        refine ab_s rfl ?_
        refine ab_t (pk_mul 2 t) ?_
        refine ab_k (y := 1) rfl rfl ?_
        refine ab_s rfl ?_
        refine ab_t (nI_1 (2 * t)) ?_
        iterate 6 refine ab_s rfl ?_
        refine ab_k (y := 1) rfl rfl ?_
        refine ab_s rfl ?_
        refine ab_k (y := 0) rfl rfl ?_
        iterate 2 refine ab_s rfl ?_
        refine ab_ii rfl rfl rfl ?_
        refine ab_s rfl ?_
        try rw [nI_eq (by omega) (by omega)] at h124
        exact ih _ ⟨_, by first | (rw [or_0, any_t (B := B) (F := (fun g q => stB s n g (2 * h) q)) (i := i) (j := (2 * t + 1)) (by omega) (fun q hq => by rw [stB_t (by omega) hq ht8 ht, Bool.eq_iff_iff]; simp only [Bool.or_eq_true, decide_eq_true_eq]; omega)]; rfl) | (rw [or_0, or_0, any_f (B := B) (F := (fun g q => stB s n g (2 * h) q)) (i := i) (fun q hq => by rw [stB_t (by omega) hq ht8 ht, Bool.eq_false_iff]; simp only [ne_eq, Bool.or_eq_true, decide_eq_true_eq]; omega)]; rfl)⟩
    · skip
      iterate 2 refine ab_s rfl ?_
      refine ab_gf rfl rfl rfl hm hv ?_
      refine ab_k (y := 0) rfl rfl ?_
      refine ab_ia 0 rfl hs (by omega) rfl (by omega) ?_
      refine ab_t h0 ?_
      refine j2_ge rfl rfl (fun h94 => absurd h94 (nI_ge hi (by omega))) (fun h94 => ?_)
      iterate 2 refine ab_s rfl ?_
      refine ab_k (y := 1) rfl rfl ?_
      refine ab_cv rfl rfl rfl hm rfl rfl (m_its M i 1 (by omega) (by omega) rfl rfl) ?_
      refine ab_t ht ?_
      iterate 3 refine ab_s rfl ?_
      refine ab_cv rfl rfl rfl hm rfl rfl (m_isHouse0 M (fun q => absurd ((isN_iff (by omega)).mp q) (by rw [nI_toInt (by omega)]; omega))) ?_
      refine ab_s rfl ?_
      refine ab_ii rfl rfl rfl ?_
      refine ab_s rfl ?_
      exact ih _ ⟨_, by rw [← any_f (B := B) (F := (fun g q => stB s n g (2 * h) q)) (i := i) (fun q hq => by rw [stB_t (by omega) hq ht8 ht, Bool.eq_false_iff]; simp only [ne_eq, Bool.or_eq_true, decide_eq_true_eq]; omega)]; rfl⟩
  · obtain ⟨x, rfl⟩ := hJ
    iterate 2 refine ab_s rfl ?_
    refine ab_gf rfl rfl rfl hm hv ?_
    refine ab_k (y := 0) rfl rfl ?_
    refine ab_ia 0 rfl hs (by omega) rfl (by omega) ?_
    refine ab_t h0 ?_
    refine j2_ge rfl rfl (fun h94 => ?_) (fun h94 => absurd (nI_le (Nat.le_refl _) (by omega)) h94)
    refine ab_s rfl ?_
    exact ab_ri rfl rfl
set_option maxRecDepth 100000 in
set_option maxHeartbeats 4000000 in
theorem m_j831 (M : MS w s n) (I : SI s n) (h : Nat) (hh : h < n) (B : Nat → Bool) (xs : Int32) (hx : xs = bs B 16) : ab_G X kX6_joinedTo 83 [some (.ref 54), some (.int (nI (2 * h + 1))), some (.int (nI h)), some (.int 1), some (.int xs), none, none] [] w (some (.int (bs (fun q => B q || anyR (fun g => stB s n g (2 * h + 1) q) n) 16))) w := by
  obtain ⟨vs, hm, hv, hs, hl, h0, hn⟩ := id M
  refine ab_k (y := 0) rfl rfl ?_
  refine ab_s rfl ?_
  refine g_loop0 n (fun i ls => ∃ x, ls = [some (.ref 54), some (.int (nI (2 * h + 1))), some (.int (nI h)), some (.int 1), some (.int (bs (fun q => B q || anyR (fun g => stB s n g (2 * h + 1) q) i) 16)), some (.int (nI i)), x]) ⟨none, by rw [hx, show bs B 16 = bs (fun q => B q || anyR (fun g => stB s n g (2 * h + 1) q) 0) 16 from bs_cong (fun q _ => by rw [anyR, Bool.or_false])]; rfl⟩ (fun i ls hi hJ ih => ?_) (fun ls hJ => ?_)
  · obtain ⟨x, rfl⟩ := hJ
    have m1N : ¬ isN (-1 : Int32) n := by
      rw [isN_iff (by omega)]
      intro q
      exact absurd q.1 (by decide)
    rcases (I.1 i hi).2.1 with ht | ⟨t, ht8, ht, htt⟩
    · skip
      iterate 2 refine ab_s rfl ?_
      refine ab_gf rfl rfl rfl hm hv ?_
      refine ab_k (y := 0) rfl rfl ?_
      refine ab_ia 0 rfl hs (by omega) rfl (by omega) ?_
      refine ab_t h0 ?_
      refine j2_ge rfl rfl (fun h94 => absurd h94 (nI_ge hi (by omega))) (fun h94 => ?_)
      iterate 2 refine ab_s rfl ?_
      refine ab_k (y := 1) rfl rfl ?_
      refine ab_cv rfl rfl rfl hm rfl rfl (m_its M i 1 (by omega) (by omega) rfl rfl) ?_
      refine ab_t ht ?_
      iterate 3 refine ab_s rfl ?_
      refine ab_cv rfl rfl rfl hm rfl rfl (m_isHouse0 M (fun q => absurd q m1N)) ?_
      refine ab_s rfl ?_
      refine ab_ii rfl rfl rfl ?_
      refine ab_s rfl ?_
      exact ih _ ⟨_, by rw [← any_f (B := B) (F := (fun g q => stB s n g (2 * h + 1) q)) (i := i) (fun q hq => stB_m1 (by omega) hq ht)]; rfl⟩
    by_cases htn : t < n
    · skip
      iterate 2 refine ab_s rfl ?_
      refine ab_gf rfl rfl rfl hm hv ?_
      refine ab_k (y := 0) rfl rfl ?_
      refine ab_ia 0 rfl hs (by omega) rfl (by omega) ?_
      refine ab_t h0 ?_
      refine j2_ge rfl rfl (fun h94 => absurd h94 (nI_ge hi (by omega))) (fun h94 => ?_)
      iterate 2 refine ab_s rfl ?_
      refine ab_k (y := 1) rfl rfl ?_
      refine ab_cv rfl rfl rfl hm rfl rfl (m_its M i 1 (by omega) (by omega) rfl rfl) ?_
      refine ab_t ht ?_
      iterate 3 refine ab_s rfl ?_
      refine ab_cv rfl rfl rfl hm rfl rfl (m_isHouse1 M ⟨t, htn, rfl⟩) ?_
      iterate 4 refine ab_s rfl ?_
      refine ab_k (y := 0) rfl rfl ?_
      iterate 4 refine ab_s rfl ?_
      refine ab_k (y := 1) rfl rfl ?_
      iterate 3 refine ab_s rfl ?_
      refine j2_ne rfl rfl (fun h152 => ?_) (fun h152 => ?_)
      · refine ab_k (y := 0) rfl rfl ?_
        iterate 2 refine ab_s rfl ?_
        refine ab_ii rfl rfl rfl ?_
        refine ab_s rfl ?_
        try rw [nI_eq (by omega) (by omega)] at h152
        exact ih _ ⟨_, by first | (rw [or_0, any_t (B := B) (F := (fun g q => stB s n g (2 * h + 1) q)) (i := i) (j := (2 * i)) (by omega) (fun q hq => by rw [stB_t (by omega) hq ht8 ht, Bool.eq_iff_iff]; simp only [Bool.or_eq_true, decide_eq_true_eq]; omega)]; rfl) | (rw [or_0, or_0, any_f (B := B) (F := (fun g q => stB s n g (2 * h + 1) q)) (i := i) (fun q hq => by rw [stB_t (by omega) hq ht8 ht, Bool.eq_false_iff]; simp only [ne_eq, Bool.or_eq_true, decide_eq_true_eq]; omega)]; rfl)⟩
      · refine ab_k (y := 1) rfl rfl ?_
        refine ab_k (y := 2) rfl rfl ?_
        refine ab_s rfl ?_
        refine ab_s rfl ?_
        refine ab_t (pk_mul 2 i) ?_
        iterate 4 refine ab_s rfl ?_
        refine ab_ii rfl rfl rfl ?_
        refine ab_s rfl ?_
        try rw [nI_eq (by omega) (by omega)] at h152
        exact ih _ ⟨_, by first | (rw [or_0, any_t (B := B) (F := (fun g q => stB s n g (2 * h + 1) q)) (i := i) (j := (2 * i)) (by omega) (fun q hq => by rw [stB_t (by omega) hq ht8 ht, Bool.eq_iff_iff]; simp only [Bool.or_eq_true, decide_eq_true_eq]; omega)]; rfl) | (rw [or_0, or_0, any_f (B := B) (F := (fun g q => stB s n g (2 * h + 1) q)) (i := i) (fun q hq => by rw [stB_t (by omega) hq ht8 ht, Bool.eq_false_iff]; simp only [ne_eq, Bool.or_eq_true, decide_eq_true_eq]; omega)]; rfl)⟩
    · skip
      iterate 2 refine ab_s rfl ?_
      refine ab_gf rfl rfl rfl hm hv ?_
      refine ab_k (y := 0) rfl rfl ?_
      refine ab_ia 0 rfl hs (by omega) rfl (by omega) ?_
      refine ab_t h0 ?_
      refine j2_ge rfl rfl (fun h94 => absurd h94 (nI_ge hi (by omega))) (fun h94 => ?_)
      iterate 2 refine ab_s rfl ?_
      refine ab_k (y := 1) rfl rfl ?_
      refine ab_cv rfl rfl rfl hm rfl rfl (m_its M i 1 (by omega) (by omega) rfl rfl) ?_
      refine ab_t ht ?_
      iterate 3 refine ab_s rfl ?_
      refine ab_cv rfl rfl rfl hm rfl rfl (m_isHouse0 M (fun q => absurd ((isN_iff (by omega)).mp q) (by rw [nI_toInt (by omega)]; omega))) ?_
      refine ab_s rfl ?_
      refine ab_ii rfl rfl rfl ?_
      refine ab_s rfl ?_
      exact ih _ ⟨_, by rw [← any_f (B := B) (F := (fun g q => stB s n g (2 * h + 1) q)) (i := i) (fun q hq => by rw [stB_t (by omega) hq ht8 ht, Bool.eq_false_iff]; simp only [ne_eq, Bool.or_eq_true, decide_eq_true_eq]; omega)]; rfl⟩
  · obtain ⟨x, rfl⟩ := hJ
    iterate 2 refine ab_s rfl ?_
    refine ab_gf rfl rfl rfl hm hv ?_
    refine ab_k (y := 0) rfl rfl ?_
    refine ab_ia 0 rfl hs (by omega) rfl (by omega) ?_
    refine ab_t h0 ?_
    refine j2_ge rfl rfl (fun h94 => ?_) (fun h94 => absurd (nI_le (Nat.le_refl _) (by omega)) h94)
    refine ab_s rfl ?_
    exact ab_ri rfl rfl
end M4
