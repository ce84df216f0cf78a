/-! THE REFERENCE: joinedTo, joinedAll -/
section M5
variable {X : List Int32} {w : ab_W} {s : List Int32} {n : Nat}
theorem j44i : ∀ h, h < 8 → ∀ u, u < 2 → (66 + (2 : Int32) * nI h + nI u) = nI (66 + (2 * h + u)) := by decide +kernel
theorem j11i : ∀ h, h < 8 → ∀ u, u < 2 → 0 < h → (66 + (2 : Int32) * nI h - 2 + nI u) = nI (64 + (2 * h + u)) := by decide +kernel
theorem dd {s : List Int32} {r : Nat} {b : Bool} (hb : dB s (r - 2) = b) (q : Nat) : (decide (q + 2 = r) && dB s q) = (decide (q + 2 = r) && b) := by
  by_cases e : q + 2 = r
  · subst e
    rw [show q + 2 - 2 = q by omega] at hb
    rw [hb]
  · rw [decide_eq_false e]
    rfl
theorem dd_f {s : List Int32} {r : Nat} (hb : dB s (r - 2) = false) : (0 : Int32) = bs (fun q => decide (q + 2 = r) && dB s q) 16 :=
  ((bs_zero (by omega)).mpr (fun q _ => by rw [dd hb, Bool.and_false])).symm
theorem dd_t {s : List Int32} {r : Nat} (hr : r < 16) (h2 : 2 ≤ r) (hb : dB s (r - 2) = true) : (0 : Int32) ||| (1 : Int32) <<< (nI (r - 2) &&& 31) = bs (fun q => decide (q + 2 = r) && dB s q) 16 := by
  rw [← (bs_zero (p := fun _ => false) (m := 16) (by omega)).mpr (fun _ _ => rfl)]
  exact bs_or1 (by omega) (by omega) (fun q _ => by rw [dd hb, Bool.and_true, Bool.false_or]; exact decide_eq_decide.mpr (by omega))
theorem adjB_e {s : List Int32} {n r q : Nat} (hr : r < 2 * n) (hn : n ≤ 8) (hq : q < 16) (I : SI s n) : adjB s n r q = ((decide (q + 2 = r) && dB s q) || (decide (q = r + 2 ∧ r + 2 < 2 * n) && dB s r) || anyR (fun g => stB s n g r q) n) := by
  by_cases h : q < 2 * n
  · unfold adjB
    rw [decide_eq_true hr, decide_eq_true h]
    simp only [Bool.true_and]
    rw [show decide (q = r + 2 ∧ r + 2 < 2 * n) = decide (q = r + 2) from decide_eq_decide.mpr (by omega)]
  · unfold adjB
    rw [decide_eq_false h, Bool.and_false, Bool.false_and]
    have h1 : ¬ q + 2 = r := by omega
    have h2 : ¬ (q = r + 2 ∧ r + 2 < 2 * n) := by omega
    have h3 : anyR (fun g => stB s n g r q) n = false := by
      rw [Bool.eq_false_iff, ne_eq, anyR_iff]
      rintro ⟨g, hg, h4⟩
      rcases (I.1 g hg).2.1 with ht | ⟨t, ht8, ht, -⟩
      · rw [stB_m1 (by omega) hq ht] at h4; cases h4
      · rw [stB_t (by omega) hq ht8 ht] at h4
        simp only [Bool.or_eq_true, decide_eq_true_eq] at h4
        omega
    rw [h3, decide_eq_false h1, decide_eq_false h2]
    rfl
set_option maxRecDepth 100000 in
set_option maxHeartbeats 4000000 in
theorem m_j44 (M : MS w s n) (I : SI s n) (h u : Nat) (hh : h < n) (hu : u < 2) (B : Nat → Bool) (xs : Int32) (hx : xs = bs B 16) : ab_G X kX6_joinedTo 44 [some (.ref 54), some (.int (nI (2 * h + u))), some (.int (nI h)), some (.int (nI u)), some (.int xs), none, none] [] w (some (.int (bs (fun q => (B q || (decide (q = 2 * h + u + 2 ∧ 2 * h + u + 2 < 2 * n) && dB s (2 * h + u))) || anyR (fun g => stB s n g (2 * h + u) q) n) 16))) w := by
  obtain ⟨vs, hm, hv, hs, hl, h0, hn⟩ := id M
  have j83 : ∀ (B : Nat → Bool) (xs : Int32), xs = bs B 16 → ab_G X kX6_joinedTo 83 [some (.ref 54), some (.int (nI (2 * h + u))), some (.int (nI h)), some (.int (nI u)), some (.int xs), none, none] [] w (some (.int (bs (fun q => B q || anyR (fun g => stB s n g (2 * h + u) q) n) 16))) w := by
    intro B xs hx
    match u, hu with
    | 0, _ => exact m_j830 M I h hh B xs hx
    | 1, _ => exact m_j831 M I h hh B xs hx
  refine ab_s rfl ?_
  refine ab_k (y := 1) rfl rfl ?_
  refine ab_s rfl ?_
  refine ab_t (nI_1 h) ?_
  refine ab_s rfl ?_
  refine ab_gf rfl rfl rfl hm hv ?_
  refine ab_k (y := 0) rfl rfl ?_
  refine ab_ia 0 rfl hs (by omega) rfl (by omega) ?_
  refine ab_t h0 ?_
  refine j2_ge rfl rfl (fun h53 => ?_) (fun h53 => ?_)
  · refine j83 _ _ ?_
    try rw [nI_leI (by omega) (by omega)] at h53
    rw [hx]
    first | exact bs_cong (fun q _ => by rw [decide_eq_false (show ¬ (q = 2 * h + u + 2 ∧ 2 * h + u + 2 < 2 * n) by omega), Bool.false_and, Bool.or_false]) | exact bs_cong (fun q _ => by rw [show dB s (2 * h + u) = false from decide_eq_false h70, Bool.and_false, Bool.or_false]) | exact bs_or1 (by omega) (by omega) (fun q _ => by rw [show dB s (2 * h + u) = true from decide_eq_true h70, Bool.and_true, show decide (q = 2 * h + u + 2 ∧ 2 * h + u + 2 < 2 * n) = decide (q = 2 * h + u + 2) from decide_eq_decide.mpr (by omega)])
  · refine ab_s rfl ?_
    refine ab_gf rfl rfl rfl hm hv ?_
    refine ab_k (y := 66) rfl rfl ?_
    refine ab_k (y := 2) rfl rfl ?_
    iterate 5 refine ab_s rfl ?_
    refine ab_ia (66 + (2 * h + u)) rfl hs (by omega) (j44i h (by omega) u hu) (by omega) ?_
    refine ab_k (y := 1) rfl rfl ?_
    refine j2_ne rfl rfl (fun h70 => ?_) (fun h70 => ?_)
    · refine j83 _ _ ?_
      try rw [nI_leI (by omega) (by omega)] at h53
      rw [hx]
      first | exact bs_cong (fun q _ => by rw [decide_eq_false (show ¬ (q = 2 * h + u + 2 ∧ 2 * h + u + 2 < 2 * n) by omega), Bool.false_and, Bool.or_false]) | exact bs_cong (fun q _ => by rw [show dB s (2 * h + u) = false from decide_eq_false h70, Bool.and_false, Bool.or_false]) | exact bs_or1 (by omega) (by omega) (fun q _ => by rw [show dB s (2 * h + u) = true from decide_eq_true h70, Bool.and_true, show decide (q = 2 * h + u + 2 ∧ 2 * h + u + 2 < 2 * n) = decide (q = 2 * h + u + 2) from decide_eq_decide.mpr (by omega)])
    · refine ab_s rfl ?_
      refine ab_k (y := 1) rfl rfl ?_
      refine ab_s rfl ?_
      refine ab_k (y := 2) rfl rfl ?_
      refine ab_s rfl ?_
      refine ab_t (nI_add (2 * h + u) 2) ?_
      iterate 3 refine ab_s rfl ?_
      refine j83 _ _ ?_
      try rw [nI_leI (by omega) (by omega)] at h53
      rw [hx]
      first | exact bs_cong (fun q _ => by rw [decide_eq_false (show ¬ (q = 2 * h + u + 2 ∧ 2 * h + u + 2 < 2 * n) by omega), Bool.false_and, Bool.or_false]) | exact bs_cong (fun q _ => by rw [show dB s (2 * h + u) = false from decide_eq_false h70, Bool.and_false, Bool.or_false]) | exact bs_or1 (by omega) (by omega) (fun q _ => by rw [show dB s (2 * h + u) = true from decide_eq_true h70, Bool.and_true, show decide (q = 2 * h + u + 2 ∧ 2 * h + u + 2 < 2 * n) = decide (q = 2 * h + u + 2) from decide_eq_decide.mpr (by omega)])
set_option maxRecDepth 100000 in
set_option maxHeartbeats 4000000 in
theorem m_joinedTo (M : MS w s n) (I : SI s n) (r : Nat) (hr : r < 2 * n) : ab_M X kX6_joinedTo [.ref 54, .int (nI r)] w (some (.int (bs (adjB s n r) 16))) w := by
  obtain ⟨vs, hm, hv, hs, hl, h0, hn⟩ := id M
  obtain ⟨h, u, hu, rfl⟩ : ∃ h u, u < 2 ∧ r = 2 * h + u := ⟨r / 2, r % 2, by omega, by omega⟩
  rw [bs_cong (p := adjB s n (2 * h + u)) (fun q hq => adjB_e hr hn hq I)]
  have hh : h < n := by omega
  have hw : dB s (2 * h + u - 2) = decide (s.getD (64 + (2 * h + u)) 0 = 1) ∨ h = 0 := by
    by_cases h1 : h = 0
    · exact Or.inr h1
    · refine Or.inl ?_
      unfold dB
      rw [show 66 + (2 * h + u - 2) = 64 + (2 * h + u) by omega]
  show ab_G X kX6_joinedTo 0 [some (.ref 54), some (.int (nI (2 * h + u))), none, none, none, none, none] [] w _ _
  refine ab_s rfl ?_
  refine ab_k (y := 2) rfl rfl ?_
  refine ab_s rfl ?_
  refine ab_t (show nI (2 * h + u) / 2 = nI h from (pk_div (a := 2 * h + u) (d := 2) (by omega) (by omega) (by omega)).trans (congrArg nI (by omega))) ?_
  iterate 2 refine ab_s rfl ?_
  refine ab_k (y := 2) rfl rfl ?_
  refine ab_s rfl ?_
  refine ab_t (show nI (2 * h + u) - nI (2 * h + u) / 2 * 2 = nI u from (pk_rem (a := 2 * h + u) (d := 2) (by omega) (by omega) (by omega)).trans (congrArg nI (by omega))) ?_
  refine ab_s rfl ?_
  refine ab_k (y := 0) rfl rfl ?_
  iterate 2 refine ab_s rfl ?_
  refine j1_le rfl rfl (fun h12 => ?_) (fun h12 => ?_)
  · refine m_j44 M I h u hh hu (fun q => decide (q + 2 = 2 * h + u) && dB s q) _ ?_
    rw [show (0 : Int32) = nI 0 from rfl, nI_leI (by omega) (by omega)] at h12
    first | exact ((bs_zero (by omega)).mpr (fun q _ => by rw [decide_eq_false (show ¬ q + 2 = 2 * h + u by omega)]; rfl)).symm | exact dd_f (by rw [hw.resolve_right (by omega)]; exact decide_eq_false h31) | exact dd_t (by omega) (by omega) (by rw [hw.resolve_right (by omega)]; exact decide_eq_true h31)
  · refine ab_s rfl ?_
    refine ab_gf rfl rfl rfl hm hv ?_
    refine ab_k (y := 66) rfl rfl ?_
    refine ab_k (y := 2) rfl rfl ?_
    iterate 3 refine ab_s rfl ?_
    refine ab_k (y := 2) rfl rfl ?_
    iterate 3 refine ab_s rfl ?_
    refine ab_ia (64 + (2 * h + u)) rfl hs (by omega) (j11i h (by omega) u hu (by rw [show (0 : Int32) = nI 0 from rfl, nI_leI (by omega) (by omega)] at h12; omega)) (by omega) ?_
    refine ab_k (y := 1) rfl rfl ?_
    refine j2_ne rfl rfl (fun h31 => ?_) (fun h31 => ?_)
    · refine m_j44 M I h u hh hu (fun q => decide (q + 2 = 2 * h + u) && dB s q) _ ?_
      rw [show (0 : Int32) = nI 0 from rfl, nI_leI (by omega) (by omega)] at h12
      first | exact ((bs_zero (by omega)).mpr (fun q _ => by rw [decide_eq_false (show ¬ q + 2 = 2 * h + u by omega)]; rfl)).symm | exact dd_f (by rw [hw.resolve_right (by omega)]; exact decide_eq_false h31) | exact dd_t (by omega) (by omega) (by rw [hw.resolve_right (by omega)]; exact decide_eq_true h31)
    · refine ab_s rfl ?_
      refine ab_k (y := 1) rfl rfl ?_
      refine ab_s rfl ?_
      refine ab_k (y := 2) rfl rfl ?_
      refine ab_s rfl ?_
      refine ab_t (pk_sub (a := 2 * h + u) (b := 2) (by rw [show (0 : Int32) = nI 0 from rfl, nI_leI (by omega) (by omega)] at h12; omega)) ?_
      iterate 3 refine ab_s rfl ?_
      refine m_j44 M I h u hh hu (fun q => decide (q + 2 = 2 * h + u) && dB s q) _ ?_
      rw [show (0 : Int32) = nI 0 from rfl, nI_leI (by omega) (by omega)] at h12
      first | exact ((bs_zero (by omega)).mpr (fun q _ => by rw [decide_eq_false (show ¬ q + 2 = 2 * h + u by omega)]; rfl)).symm | exact dd_f (by rw [hw.resolve_right (by omega)]; exact decide_eq_false h31) | exact dd_t (by omega) (by omega) (by rw [hw.resolve_right (by omega)]; exact decide_eq_true h31)
set_option maxRecDepth 100000 in
set_option maxHeartbeats 4000000 in
theorem m_joinedAll (M : MS w s n) (I : SI s n) (p : Nat → Bool) (hp : ∀ r, r < 16 → p r = true → r < 2 * n) : ab_M X kX6_joinedAll [.ref 54, .int (bs p 16)] w (some (.int (bs (fun q => anyR (fun r => p r && adjB s n r q) 16) 16))) w := by
  obtain ⟨vs, hm, hv, hs, hl, h0, hn⟩ := id M
  show ab_G X kX6_joinedAll 0 [some (.ref 54), some (.int (bs p 16)), none, none] [] w _ _
  refine ab_k (y := 0) rfl rfl ?_
  refine ab_s rfl ?_
  refine ab_k (y := 0) rfl rfl ?_
  refine ab_s rfl ?_
  refine g_loop0 16 (fun i ls => ls = [some (.ref 54), some (.int (bs p 16)), some (.int (bs (fun q => anyR (fun r => p r && adjB s n r q) i) 16)), some (.int (nI i))]) (by rw [show bs (fun q => anyR (fun r => p r && adjB s n r q) 0) 16 = 0 from (bs_zero (by omega)).mpr (fun _ _ => rfl)]; rfl) (fun i ls hi hJ ih => ?_) (fun ls hJ => ?_)
  · subst hJ
    have hb : bt (bs p 16) i = p i := by rw [bt_bs _ _ _ (by omega) (by omega), decide_eq_true hi, Bool.true_and]
    refine ab_s rfl ?_
    refine ab_k (y := 16) rfl rfl ?_
    refine j2_ge rfl rfl (fun h7 => absurd h7 (nI_ge (b := 16) hi (by omega))) (fun h7 => ?_)
    iterate 3 refine ab_s rfl ?_
    refine ab_c rfl (m_has i (by omega)) ?_
    refine z1_eq rfl rfl (fun h16 => ?_) (fun h16 => ?_)
    · refine ab_k (y := 0) rfl rfl ?_
      iterate 2 refine ab_s rfl ?_
      refine ab_ii rfl rfl rfl ?_
      refine ab_s rfl ?_
      exact ih _ (by first | (rw [bs_cong (p := fun q => anyR (fun r => p r && adjB s n r q) (i + 1)) (q := fun q => anyR (fun r => p r && adjB s n r q) i || adjB s n i q) (fun q _ => by rw [anyR, hb.symm.trans h16, Bool.true_and]), ← bs_or (p := fun q => anyR (fun r => p r && adjB s n r q) i) (q := adjB s n i) (m := 16) (by omega)]; rfl) | (rw [or_0, bs_cong (p := fun q => anyR (fun r => p r && adjB s n r q) i) (q := fun q => anyR (fun r => p r && adjB s n r q) (i + 1)) (fun q _ => by rw [anyR, hb.symm.trans h16, Bool.false_and, Bool.or_false])]; rfl))
    · iterate 2 refine ab_s rfl ?_
      refine ab_cv rfl rfl rfl hm rfl rfl (m_joinedTo M I i (hp i hi (hb.symm.trans h16))) ?_
      iterate 3 refine ab_s rfl ?_
      refine ab_ii rfl rfl rfl ?_
      refine ab_s rfl ?_
      exact ih _ (by first | (rw [bs_cong (p := fun q => anyR (fun r => p r && adjB s n r q) (i + 1)) (q := fun q => anyR (fun r => p r && adjB s n r q) i || adjB s n i q) (fun q _ => by rw [anyR, hb.symm.trans h16, Bool.true_and]), ← bs_or (p := fun q => anyR (fun r => p r && adjB s n r q) i) (q := adjB s n i) (m := 16) (by omega)]; rfl) | (rw [or_0, bs_cong (p := fun q => anyR (fun r => p r && adjB s n r q) i) (q := fun q => anyR (fun r => p r && adjB s n r q) (i + 1)) (fun q _ => by rw [anyR, hb.symm.trans h16, Bool.false_and, Bool.or_false])]; rfl))
  · subst hJ
    refine ab_s rfl ?_
    refine ab_k (y := 16) rfl rfl ?_
    refine j2_ge rfl rfl (fun h7 => ?_) (fun h7 => absurd (nI_le (a := 16) (b := 16) (Nat.le_refl _) (by omega)) h7)
    refine ab_s rfl ?_
    exact ab_ri rfl rfl
end M5
