theorem ab_hc1 : ∀ k, k < 247 → ab_ck1 (ab_mi k) = true := sorry
theorem ab_hc2 : ∀ k, k < 246 → ab_ck2 (ab_mi k) = true := sorry
