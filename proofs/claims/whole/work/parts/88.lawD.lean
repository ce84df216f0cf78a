/-! THE LAW: its loop, and all of it -/
section LD
variable {X : List Int32} {w : ab_W} {i : Nat} {Q : Option Value → ab_W → Prop}
theorem and_63 (x : Int32) : ∃ c, c < 64 ∧ x &&& 63 = nI c := by
  refine ⟨(x &&& 63).toBitVec.toNat, ?_, ?_⟩
  · rw [Int32.toBitVec_and, BitVec.toNat_and]
    exact Nat.lt_succ_of_le Nat.and_le_right
  · refine Int32.toBitVec_inj.mp ?_
    show _ = BitVec.ofNat 32 _
    rw [BitVec.ofNat_toNat]
    exact (BitVec.setWidth_eq _).symm
set_option maxRecDepth 100000 in
set_option maxHeartbeats 4000000 in
theorem lw_sw (K : ∀ w', LL w' → ab_H X kL_law 18 [some (.retAddr 0), some (.ref 0), some (.ref 54), some (.int (nI (i + 6)))] [] w' Q) (hX : X.length ≤ 384) (h6 : i + 6 ≤ X.length) (h : LL w) : ab_H X kL_law 27 [some (.retAddr 0), some (.ref 0), some (.ref 54), some (.int (nI i))] [] w Q := by
  iterate 2 refine h_s rfl ?_
  refine h_ix _ rfl rfl (by omega) rfl (by omega) ?_
  refine h_k (y := 63) rfl rfl ?_
  refine h_s rfl ?_
  obtain ⟨c, hc, e⟩ := and_63 (X.getD i 0)
  refine h_t e ?_
  clear e
  match c, hc with
    | 0, _ =>
      refine h_Nsw (a := 0) rfl rfl (by decide) rfl rfl ?_
      exact lw_c0 K hX h6 h
    | 1, _ =>
      refine h_Nsw (a := 1) rfl rfl (by decide) rfl rfl ?_
      exact lw_c1 K hX h6 h
    | 2, _ =>
      refine h_Nsw (a := 2) rfl rfl (by decide) rfl rfl ?_
      exact lw_c2 K hX h6 h
    | 3, _ =>
      refine h_Nsw (a := 3) rfl rfl (by decide) rfl rfl ?_
      exact lw_c3 K hX h6 h
    | 4, _ =>
      refine h_Nsw (a := 4) rfl rfl (by decide) rfl rfl ?_
      exact lw_c4 K hX h6 h
    | 5, _ =>
      refine h_Nsw (a := 5) rfl rfl (by decide) rfl rfl ?_
      exact lw_c5 K hX h6 h
    | 6, _ =>
      refine h_Nsw (a := 6) rfl rfl (by decide) rfl rfl ?_
      exact lw_c6 K hX h6 h
    | 7, _ =>
      refine h_Nsw (a := 7) rfl rfl (by decide) rfl rfl ?_
      exact lw_c7 K hX h6 h
    | 8, _ =>
      refine h_Nsw (a := 8) rfl rfl (by decide) rfl rfl ?_
      exact lw_c8 K hX h6 h
    | 9, _ =>
      refine h_Nsw (a := 9) rfl rfl (by decide) rfl rfl ?_
      exact lw_c9 K hX h6 h
    | 10, _ =>
      refine h_Nsw (a := 10) rfl rfl (by decide) rfl rfl ?_
      exact lw_c10 K hX h6 h
    | 11, _ =>
      refine h_Nsw (a := 11) rfl rfl (by decide) rfl rfl ?_
      exact lw_c11 K hX h6 h
    | 12, _ =>
      refine h_Nsw (a := 12) rfl rfl (by decide) rfl rfl ?_
      exact lw_c12 K hX h6 h
    | 13, _ =>
      refine h_Nsw (a := 13) rfl rfl (by decide) rfl rfl ?_
      exact lw_c13 K hX h6 h
    | 14, _ =>
      refine h_Nsw (a := 14) rfl rfl (by decide) rfl rfl ?_
      exact lw_c14 K hX h6 h
    | 15, _ =>
      refine h_Nsw (a := 15) rfl rfl (by decide) rfl rfl ?_
      exact lw_c15 K hX h6 h
    | 16, _ =>
      refine h_Nsw (a := 16) rfl rfl (by decide) rfl rfl ?_
      exact lw_c16 K hX h6 h
    | 17, _ =>
      refine h_Nsw (a := 17) rfl rfl (by decide) rfl rfl ?_
      exact lw_c17 K hX h6 h
    | 18, _ =>
      refine h_Nsw (a := 18) rfl rfl (by decide) rfl rfl ?_
      exact lw_c18 K hX h6 h
    | 19, _ =>
      refine h_Nsw (a := 19) rfl rfl (by decide) rfl rfl ?_
      exact lw_c19 K hX h6 h
    | 20, _ =>
      refine h_Nsw (a := 20) rfl rfl (by decide) rfl rfl ?_
      exact lw_c20 K hX h6 h
    | 21, _ =>
      refine h_Nsw (a := 21) rfl rfl (by decide) rfl rfl ?_
      exact lw_c21 K hX h6 h
    | 22, _ =>
      refine h_Nsw (a := 22) rfl rfl (by decide) rfl rfl ?_
      exact lw_c22 K hX h6 h
    | 23, _ =>
      refine h_Nsw (a := 23) rfl rfl (by decide) rfl rfl ?_
      exact lw_c23 K hX h6 h
    | 24, _ =>
      refine h_Nsw (a := 24) rfl rfl (by decide) rfl rfl ?_
      exact lw_c24 K hX h6 h
    | 25, _ =>
      refine h_Nsw (a := 25) rfl rfl (by decide) rfl rfl ?_
      exact lw_c25 K hX h6 h
    | 26, _ =>
      refine h_Nsw (a := 26) rfl rfl (by decide) rfl rfl ?_
      exact lw_c26 K hX h6 h
    | 27, _ =>
      refine h_Nsw (a := 27) rfl rfl (by decide) rfl rfl ?_
      exact lw_c27 K hX h6 h
    | 28, _ =>
      refine h_Nsw (a := 28) rfl rfl (by decide) rfl rfl ?_
      exact lw_c28 K hX h6 h
    | 29, _ =>
      refine h_Nsw (a := 29) rfl rfl (by decide) rfl rfl ?_
      exact lw_c29 K hX h6 h
    | 30, _ =>
      refine h_Nsw (a := 30) rfl rfl (by decide) rfl rfl ?_
      exact lw_c30 K hX h6 h
    | 31, _ =>
      refine h_Nsw (a := 31) rfl rfl (by decide) rfl rfl ?_
      exact lw_c31 K hX h6 h
    | 32, _ =>
      refine h_Nsw (a := 32) rfl rfl (by decide) rfl rfl ?_
      exact lw_c32 K hX h6 h
    | 33, _ =>
      refine h_Nsw (a := 33) rfl rfl (by decide) rfl rfl ?_
      exact lw_c33 K hX h6 h
    | 34, _ =>
      refine h_Nsw (a := 34) rfl rfl (by decide) rfl rfl ?_
      exact lw_c34 K hX h6 h
    | 35, _ =>
      refine h_Nsw (a := 35) rfl rfl (by decide) rfl rfl ?_
      exact lw_c35 K hX h6 h
    | 36, _ =>
      refine h_Nsw (a := 36) rfl rfl (by decide) rfl rfl ?_
      exact lw_c36 K hX h6 h
    | 37, _ =>
      refine h_Nsw (a := 37) rfl rfl (by decide) rfl rfl ?_
      exact lw_c37 K hX h6 h
    | 38, _ =>
      refine h_Nsw (a := 38) rfl rfl (by decide) rfl rfl ?_
      exact lw_c38 K hX h6 h
    | 39, _ =>
      refine h_Nsw (a := 39) rfl rfl (by decide) rfl rfl ?_
      exact lw_c39 K hX h6 h
    | 40, _ =>
      refine h_Nsw (a := 40) rfl rfl (by decide) rfl rfl ?_
      exact lw_c40 K hX h6 h
    | 41, _ =>
      refine h_Nsw (a := 41) rfl rfl (by decide) rfl rfl ?_
      exact lw_c41 K hX h6 h
    | 42, _ =>
      refine h_Nsw (a := 42) rfl rfl (by decide) rfl rfl ?_
      exact lw_c42 K hX h6 h
    | 43, _ =>
      refine h_Nsw (a := 43) rfl rfl (by decide) rfl rfl ?_
      exact lw_c43 K hX h6 h
    | 44, _ =>
      refine h_Nsw (a := 44) rfl rfl (by decide) rfl rfl ?_
      exact lw_c44 K hX h6 h
    | 45, _ =>
      refine h_Nsw (a := 45) rfl rfl (by decide) rfl rfl ?_
      exact lw_c45 K hX h6 h
    | c + 46, hc =>
      refine h_swd (t := 1632) rfl ?_ rfl ?_
      · have key : ∀ c, c < 64 → 46 ≤ c → (decide ((nI c).toInt < 0) || decide (45 < (nI c).toInt)) = true := by decide +kernel
        exact key (c + 46) hc (by omega)
      · exact lw_e K h
-- from the loop's head, when the script has six ints or more
set_option maxRecDepth 100000 in
set_option maxHeartbeats 4000000 in
theorem lw_loop (hX : X.length ≤ 384) (h6 : 6 ≤ X.length) (E : ∀ w', LL w' → Q (some (.int 1)) w') : ∀ (d i : Nat) (w : ab_W), i ≤ 390 → X.length + 6 ≤ i + d → LL w → ab_H X kL_law 18 [some (.retAddr 0), some (.ref 0), some (.ref 54), some (.int (nI i))] [] w Q
  | 0, i, w, hi, hd, h => by
    iterate 3 refine h_s rfl ?_
    refine h_k (y := 6) rfl rfl ?_
    refine h_Nsub (a := X.length) (b := 6) rfl rfl rfl (by omega) ?_
    refine hN_gt rfl rfl rfl rfl (by omega) (by omega) (fun h24 => ?_) (fun h24 => absurd h24 (by omega))
    refine h_k (y := 1) rfl rfl ?_
    exact h_ri rfl rfl (E w h)
  | d + 1, i, w, hi, hd, h => by
    iterate 3 refine h_s rfl ?_
    refine h_k (y := 6) rfl rfl ?_
    refine h_Nsub (a := X.length) (b := 6) rfl rfl rfl (by omega) ?_
    refine hN_gt rfl rfl rfl rfl (by omega) (by omega) (fun h24 => ?_) (fun h24 => ?_)
    · refine h_k (y := 1) rfl rfl ?_
      exact h_ri rfl rfl (E w h)
    · refine lw_sw (fun w' h' => ?_) hX (by omega) h
      exact lw_loop hX h6 E d (i + 6) w' (by omega) (by omega) h'
-- from the loop's head, when the script is shorter
set_option maxRecDepth 100000 in
set_option maxHeartbeats 4000000 in
theorem lw_short (h6 : X.length < 6) (E : Q (some (.int 1)) w) : ab_H X kL_law 18 [some (.retAddr 0), some (.ref 0), some (.ref 54), some (.int (nI 0))] [] w Q := by
  iterate 3 refine h_s rfl ?_
  refine h_k (y := 6) rfl rfl ?_
  refine h_s rfl ?_
  refine h2_gt rfl rfl (fun h24 => ?_) (fun h24 => absurd ?_ h24)
  · refine h_k (y := 1) rfl rfl ?_
    exact h_ri rfl rfl E
  · have key : ∀ L, L < 6 → (Int32.ofNat L - 6 < nI 0) := by decide +kernel
    exact key X.length h6
theorem LI_0 : LI S00 0 (Z0 90) false (Z0 4) (Z0 4) := by
  refine ⟨⟨fun h hh => absurd hh (by omega), fun d hd => ⟨false, ?_⟩, fun k hk => Or.inl ?_⟩, fun e => (by cases e), fun k hk => ⟨?_, 0, by omega, ?_⟩⟩
  · exact (show ∀ d, d < 14 → S00.getD (66 + d) 0 = z01 false by decide +kernel) d hd
  · exact (show ∀ k, k < 10 → S00.getD (80 + k) 0 = -1 by decide +kernel) k hk
  · exact (show ∀ k, k < 4 → bitOK ((Z0 4).getD k 0) = true by decide +kernel) k hk
  · exact (show ∀ k, k < 4 → (Z0 4).getD k 0 = nI 0 by decide +kernel) k hk
set_option maxRecDepth 100000 in
set_option maxHeartbeats 4000000 in
theorem lw_H (hX : X.length ≤ 384) : ab_H X kL_law 0 [some (.retAddr 0), none, none, none] [] [] (fun v w' => v = some (.int 1) ∧ w'.length = 65) := by
  refine h_newo (L := 0) rfl rfl rfl rfl (fun w1 l1 c1 g1 => ?_)
  refine h_s rfl ?_
  refine hq_c rfl (i_class l1 c1) (fun v2 w2 q2 => ?_)
  obtain ⟨rfl, l2, R⟩ := q2
  refine h_n (st2 := [_]) rfl ?_
  refine h_s rfl ?_
  refine h_newo rfl rfl rfl l2 (fun w3 l3 c3 g3 => ?_)
  have R := R.fr g3
  refine h_s rfl ?_
  refine hq_c rfl (i_model l3 c3) (fun v4 w4 q4 => ?_)
  obtain ⟨rfl, l4, M, g4⟩ := q4
  have R := R.fr g4
  refine h_n (st2 := [_]) rfl ?_
  refine h_s rfl ?_
  refine h_k (y := 0) rfl rfl ?_
  refine h_s rfl ?_
  have hL : LL w4 := ⟨⟨_, _, _, _, _, _, _, _, _, _, R, M, LI_0⟩, l4⟩
  by_cases h6 : 6 ≤ X.length
  · exact lw_loop hX h6 (fun w' h' => ⟨rfl, h'.2⟩) 400 0 w4 (by omega) (by omega) hL
  · exact lw_short (by omega) ⟨rfl, hL.2⟩
theorem lw_run (hX : X.length ≤ 384) : ∃ n w', ab_run X n kL_law 0 (ab_ent 4 [.retAddr 0]) [] [] = some (some (.int 1), w') ∧ w'.length ≤ 600000 ∧ ab_z w' ≤ 7302250 := by
  obtain ⟨v, w', ⟨n, e⟩, rfl, hl⟩ := lw_H hX
  have hs : ab_sm w' := ab_run_sm e (fun c hc => absurd hc List.not_mem_nil)
  have hz := ab_z_le w' hs
  refine ⟨n, w', e, ?_, ?_⟩
  · omega
  · rw [hl] at hz
    exact Nat.le_trans hz (Nat.le_of_ble_eq_true rfl)
end LD
