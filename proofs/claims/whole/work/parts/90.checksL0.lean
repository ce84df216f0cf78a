def ab_ckL (e : Nat × Instr × Nat) : Bool := decide (decode (ib ab_m246) e.1 = .ok (e.2.1, e.2.2)) && (ab_sz e.2.1 == 0 || e.2.2 == ab_sz e.2.1)
theorem ab_cL_0 : (((it_ ab_m246).drop 0).take 60).all ab_ckL = true := by decide +kernel
theorem ab_cL_1 : (((it_ ab_m246).drop 60).take 60).all ab_ckL = true := by decide +kernel
theorem ab_cL_2 : (((it_ ab_m246).drop 120).take 60).all ab_ckL = true := by decide +kernel
theorem ab_cL_3 : (((it_ ab_m246).drop 180).take 60).all ab_ckL = true := by decide +kernel
theorem ab_cL_4 : (((it_ ab_m246).drop 240).take 60).all ab_ckL = true := by decide +kernel
theorem ab_cL_5 : (((it_ ab_m246).drop 300).take 60).all ab_ckL = true := by decide +kernel
theorem ab_cL_6 : (((it_ ab_m246).drop 360).take 60).all ab_ckL = true := by decide +kernel
theorem ab_cL_7 : (((it_ ab_m246).drop 420).take 60).all ab_ckL = true := by decide +kernel
theorem ab_cL_8 : (((it_ ab_m246).drop 480).take 60).all ab_ckL = true := by decide +kernel
theorem ab_cL_9 : (((it_ ab_m246).drop 540).take 60).all ab_ckL = true := by decide +kernel
