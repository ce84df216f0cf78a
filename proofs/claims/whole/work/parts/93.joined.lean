/-! THE CHECKS OF THE TABLES, joined -/
theorem ck_at {α : Type} {l : List α} {f : α → Bool} {a m : Nat} (d : α) (h : ((l.drop a).take m).all f = true) {k : Nat} (h1 : a ≤ k) (h2 : k < a + m) (h3 : k < l.length) : f (l.getD k d) = true := by
  refine List.all_eq_true.mp h _ (List.mem_of_getElem? (i := k - a) ?_)
  rw [List.getElem?_take_of_lt (by omega), List.getElem?_drop, show a + (k - a) = k by omega, List.getD_eq_getElem?_getD, List.getElem?_eq_getElem h3]
  rfl
theorem ck_d {α : Type} {l : List α} {f : α → Bool} {a k b : Nat} (hb : a + k = b) (h1 : ((l.drop a).take k).all f = true) (h2 : (l.drop b).all f = true) : (l.drop a).all f = true := by
  have e : (l.drop a).drop k = l.drop b := by
    rw [List.drop_drop, ← hb]
  rw [← List.take_append_drop k (l.drop a), List.all_append, h1, e, h2]
  rfl
theorem ab_msl : ab_ms.length = 247 := by decide +kernel
theorem ab_hc1a : ∀ k, k < 246 → ab_ck1 (ab_mi k) = true := by
  intro k hk
  have hl := ab_msl
  by_cases h0 : k < 20
  · exact ck_at ab_d0 ab_c1_0 (by omega) (by omega) (by omega)
  by_cases h1 : k < 40
  · exact ck_at ab_d0 ab_c1_1 (by omega) (by omega) (by omega)
  by_cases h2 : k < 60
  · exact ck_at ab_d0 ab_c1_2 (by omega) (by omega) (by omega)
  by_cases h3 : k < 80
  · exact ck_at ab_d0 ab_c1_3 (by omega) (by omega) (by omega)
  by_cases h4 : k < 100
  · exact ck_at ab_d0 ab_c1_4 (by omega) (by omega) (by omega)
  by_cases h5 : k < 120
  · exact ck_at ab_d0 ab_c1_5 (by omega) (by omega) (by omega)
  by_cases h6 : k < 140
  · exact ck_at ab_d0 ab_c1_6 (by omega) (by omega) (by omega)
  by_cases h7 : k < 160
  · exact ck_at ab_d0 ab_c1_7 (by omega) (by omega) (by omega)
  by_cases h8 : k < 180
  · exact ck_at ab_d0 ab_c1_8 (by omega) (by omega) (by omega)
  by_cases h9 : k < 200
  · exact ck_at ab_d0 ab_c1_9 (by omega) (by omega) (by omega)
  by_cases h10 : k < 220
  · exact ck_at ab_d0 ab_c1_10 (by omega) (by omega) (by omega)
  by_cases h11 : k < 240
  · exact ck_at ab_d0 ab_c1_11 (by omega) (by omega) (by omega)
  exact ck_at ab_d0 ab_c1_12 (by omega) (by omega) (by omega)
theorem ab_hc2 : ∀ k, k < 246 → ab_ck2 (ab_mi k) = true := by
  intro k hk
  have hl := ab_msl
  by_cases h0 : k < 20
  · exact ck_at ab_d0 ab_c2_0 (by omega) (by omega) (by omega)
  by_cases h1 : k < 40
  · exact ck_at ab_d0 ab_c2_1 (by omega) (by omega) (by omega)
  by_cases h2 : k < 60
  · exact ck_at ab_d0 ab_c2_2 (by omega) (by omega) (by omega)
  by_cases h3 : k < 80
  · exact ck_at ab_d0 ab_c2_3 (by omega) (by omega) (by omega)
  by_cases h4 : k < 100
  · exact ck_at ab_d0 ab_c2_4 (by omega) (by omega) (by omega)
  by_cases h5 : k < 120
  · exact ck_at ab_d0 ab_c2_5 (by omega) (by omega) (by omega)
  by_cases h6 : k < 140
  · exact ck_at ab_d0 ab_c2_6 (by omega) (by omega) (by omega)
  by_cases h7 : k < 160
  · exact ck_at ab_d0 ab_c2_7 (by omega) (by omega) (by omega)
  by_cases h8 : k < 180
  · exact ck_at ab_d0 ab_c2_8 (by omega) (by omega) (by omega)
  by_cases h9 : k < 200
  · exact ck_at ab_d0 ab_c2_9 (by omega) (by omega) (by omega)
  by_cases h10 : k < 220
  · exact ck_at ab_d0 ab_c2_10 (by omega) (by omega) (by omega)
  by_cases h11 : k < 240
  · exact ck_at ab_d0 ab_c2_11 (by omega) (by omega) (by omega)
  exact ck_at ab_d0 ab_c2_12 (by omega) (by omega) (by omega)
theorem ab_cL_e : ((it_ ab_m246).drop 1140).all ab_ckL = true := by decide +kernel
theorem ab_cL : ab_ck1 ab_m246 = true := by
  have h : ((it_ ab_m246).drop 0).all ab_ckL = true := (ck_d (a := 0) (k := 60) (b := 60) rfl ab_cL_0 (ck_d (a := 60) (k := 60) (b := 120) rfl ab_cL_1 (ck_d (a := 120) (k := 60) (b := 180) rfl ab_cL_2 (ck_d (a := 180) (k := 60) (b := 240) rfl ab_cL_3 (ck_d (a := 240) (k := 60) (b := 300) rfl ab_cL_4 (ck_d (a := 300) (k := 60) (b := 360) rfl ab_cL_5 (ck_d (a := 360) (k := 60) (b := 420) rfl ab_cL_6 (ck_d (a := 420) (k := 60) (b := 480) rfl ab_cL_7 (ck_d (a := 480) (k := 60) (b := 540) rfl ab_cL_8 (ck_d (a := 540) (k := 60) (b := 600) rfl ab_cL_9 (ck_d (a := 600) (k := 60) (b := 660) rfl ab_cL_10 (ck_d (a := 660) (k := 60) (b := 720) rfl ab_cL_11 (ck_d (a := 720) (k := 60) (b := 780) rfl ab_cL_12 (ck_d (a := 780) (k := 60) (b := 840) rfl ab_cL_13 (ck_d (a := 840) (k := 60) (b := 900) rfl ab_cL_14 (ck_d (a := 900) (k := 60) (b := 960) rfl ab_cL_15 (ck_d (a := 960) (k := 60) (b := 1020) rfl ab_cL_16 (ck_d (a := 1020) (k := 60) (b := 1080) rfl ab_cL_17 (ck_d (a := 1080) (k := 60) (b := 1140) rfl ab_cL_18 ab_cL_e)))))))))))))))))))
  exact h
theorem ab_hc1 : ∀ k, k < 247 → ab_ck1 (ab_mi k) = true := by
  intro k hk
  by_cases h : k < 246
  · exact ab_hc1a k h
  · obtain rfl : k = 246 := by omega
    exact ab_cL
