/-! THE REFERENCE: counts, status, best, beds -/
def statI (st : List Int32) (a : Int32) (k : Nat) : Int32 := if a < 0 ∨ nI k = a then st.getD k 0 else 0
theorem wayF_le (s : List Int32) (n f : Nat) (c : Int32) : wayF s n f c ≤ 16 := wayL_le _
theorem bestI_ok {g : Nat → Nat} : ∀ {m : Nat}, m < 100 → (∀ c, g c ≤ 16) → ((bestI g m).1 = -1 ∨ ∃ c, c < m ∧ (bestI g m).1 = nI c) ∧ (bestI g m).2 ≤ 16
  | 0, _, _ => ⟨Or.inl rfl, Nat.zero_le _⟩
  | m + 1, hm, h => by
    rw [bestI]
    split
    · exact ⟨Or.inr ⟨m, by omega, rfl⟩, h m⟩
    · rcases bestI_ok (m := m) (by omega) h with ⟨h1 | ⟨c, h1, h2⟩, h3⟩
      · exact ⟨Or.inl h1, h3⟩
      · exact ⟨Or.inr ⟨c, by omega, h2⟩, h3⟩
section MD
variable {X : List Int32} {w : ab_W} {s : List Int32} {n : Nat} {st ks : List Int32} {kp : Bool} {tp : List Int32} {tn : Nat} {bo so nu : List Int32}
set_option maxRecDepth 100000 in
set_option maxHeartbeats 4000000 in
theorem m_doors (M : MS w s n) (I : SI s n) : ab_M X kX6_doors [.ref 54] w (some (.int (nI (cntR (dB s) 14)))) w := by
  obtain ⟨vs, hm, hv, hs, hl, h0, hn⟩ := id M
  have hd : ∀ i, i < 14 → s.getD (66 + i) 0 = z01 (dB s i) := by
    intro i hi
    obtain ⟨b, hb⟩ := I.2.1 i hi
    unfold dB
    rw [hb]
    cases b <;> rfl
  show ab_G X kX6_doors 0 [some (.ref 54), none, none] [] w _ _
  refine ab_k (y := 0) rfl rfl ?_
  refine ab_s rfl ?_
  refine ab_k (y := 0) rfl rfl ?_
  refine ab_s rfl ?_
  refine g_loop0 14 (fun i ls => ls = [some (.ref 54), some (.int (nI (cntR (dB s) i))), some (.int (nI i))]) rfl (fun i ls hi hJ ih => ?_) (fun ls hJ => ?_)
  · subst hJ
    refine ab_s rfl ?_
    refine ab_k (y := 14) rfl rfl ?_
    refine j2_ge rfl rfl (fun h7 => absurd h7 (nI_ge (b := 14) hi (by omega))) (fun h7 => ?_)
    iterate 2 refine ab_s rfl ?_
    refine ab_gf rfl rfl rfl hm hv ?_
    refine ab_k (y := 66) rfl rfl ?_
    iterate 2 refine ab_s rfl ?_
    refine ab_ia (66 + i) rfl hs (by omega) (nI_add 66 i) (by omega) ?_
    iterate 2 refine ab_s rfl ?_
    refine ab_ii rfl rfl rfl ?_
    refine ab_s rfl ?_
    exact ih _ (by rw [cnt_z (p := dB s) (hd i hi)]; rfl)
  · subst hJ
    refine ab_s rfl ?_
    refine ab_k (y := 14) rfl rfl ?_
    refine j2_ge rfl rfl (fun h7 => ?_) (fun h7 => absurd (nI_le (a := 14) (b := 14) (Nat.le_refl _) (by omega)) h7)
    refine ab_s rfl ?_
    exact ab_ri rfl rfl
set_option maxRecDepth 100000 in
set_option maxHeartbeats 4000000 in
theorem m_stairs (M : MS w s n)  : ab_M X kX6_stairs [.ref 54] w (some (.int (nI (cntR (fun h => decide (0 ≤ fld s h 1)) n)))) w := by
  obtain ⟨vs, hm, hv, hs, hl, h0, hn⟩ := id M
  show ab_G X kX6_stairs 0 [some (.ref 54), none, none] [] w _ _
  refine ab_k (y := 0) rfl rfl ?_
  refine ab_s rfl ?_
  refine ab_k (y := 0) rfl rfl ?_
  refine ab_s rfl ?_
  refine g_loop0 n (fun i ls => ls = [some (.ref 54), some (.int (nI (cntR (fun h => decide (0 ≤ fld s h 1)) i))), some (.int (nI i))]) rfl (fun i ls hi hJ ih => ?_) (fun ls hJ => ?_)
  · subst hJ
    iterate 2 refine ab_s rfl ?_
    refine ab_gf rfl rfl rfl hm hv ?_
    refine ab_k (y := 0) rfl rfl ?_
    refine ab_ia 0 rfl hs (by omega) rfl (by omega) ?_
    refine ab_t h0 ?_
    refine j2_ge rfl rfl (fun h11 => absurd h11 (nI_ge  hi (by omega))) (fun h11 => ?_)
    iterate 3 refine ab_s rfl ?_
    refine ab_k (y := 1) rfl rfl ?_
    refine ab_cv rfl rfl rfl hm rfl rfl (m_its M i 1 (by omega) (by omega) rfl rfl) ?_
    refine j1_ge rfl rfl (fun h21 => ?_) (fun h21 => ?_)
    · refine ab_k (y := 1) rfl rfl ?_
      iterate 2 refine ab_s rfl ?_
      refine ab_ii rfl rfl rfl ?_
      refine ab_s rfl ?_
      exact ih _ (by first | (rw [← cnt_t (p := fun h => decide (0 ≤ fld s h 1)) (decide_eq_true h21)]; rfl) | (rw [← cnt_f (p := fun h => decide (0 ≤ fld s h 1)) (decide_eq_false h21)]; rfl))
    · refine ab_k (y := 0) rfl rfl ?_
      iterate 3 refine ab_s rfl ?_
      refine ab_ii rfl rfl rfl ?_
      refine ab_s rfl ?_
      exact ih _ (by first | (rw [← cnt_t (p := fun h => decide (0 ≤ fld s h 1)) (decide_eq_true h21)]; rfl) | (rw [← cnt_f (p := fun h => decide (0 ≤ fld s h 1)) (decide_eq_false h21)]; rfl))
  · subst hJ
    iterate 2 refine ab_s rfl ?_
    refine ab_gf rfl rfl rfl hm hv ?_
    refine ab_k (y := 0) rfl rfl ?_
    refine ab_ia 0 rfl hs (by omega) rfl (by omega) ?_
    refine ab_t h0 ?_
    refine j2_ge rfl rfl (fun h11 => ?_) (fun h11 => absurd (nI_le  (Nat.le_refl _) (by omega)) h11)
    refine ab_s rfl ?_
    exact ab_ri rfl rfl
set_option maxRecDepth 100000 in
set_option maxHeartbeats 4000000 in
theorem m_sleepers (M : MS w s n)  : ab_M X kX6_sleepers [.ref 54] w (some (.int (sumI (fun h => fld s h 6) n))) w := by
  obtain ⟨vs, hm, hv, hs, hl, h0, hn⟩ := id M
  show ab_G X kX6_sleepers 0 [some (.ref 54), none, none] [] w _ _
  refine ab_k (y := 0) rfl rfl ?_
  refine ab_s rfl ?_
  refine ab_k (y := 0) rfl rfl ?_
  refine ab_s rfl ?_
  refine g_loop0 n (fun i ls => ls = [some (.ref 54), some (.int (sumI (fun h => fld s h 6) i)), some (.int (nI i))]) rfl (fun i ls hi hJ ih => ?_) (fun ls hJ => ?_)
  · subst hJ
    iterate 2 refine ab_s rfl ?_
    refine ab_gf rfl rfl rfl hm hv ?_
    refine ab_k (y := 0) rfl rfl ?_
    refine ab_ia 0 rfl hs (by omega) rfl (by omega) ?_
    refine ab_t h0 ?_
    refine j2_ge rfl rfl (fun h11 => absurd h11 (nI_ge  hi (by omega))) (fun h11 => ?_)
    iterate 3 refine ab_s rfl ?_
    refine ab_k (y := 6) rfl rfl ?_
    refine ab_cv rfl rfl rfl hm rfl rfl (m_its M i 6 (by omega) (by omega) rfl rfl) ?_
    iterate 2 refine ab_s rfl ?_
    refine ab_ii rfl rfl rfl ?_
    refine ab_s rfl ?_
    exact ih _ rfl
  · subst hJ
    iterate 2 refine ab_s rfl ?_
    refine ab_gf rfl rfl rfl hm hv ?_
    refine ab_k (y := 0) rfl rfl ?_
    refine ab_ia 0 rfl hs (by omega) rfl (by omega) ?_
    refine ab_t h0 ?_
    refine j2_ge rfl rfl (fun h11 => ?_) (fun h11 => absurd (nI_le  (Nat.le_refl _) (by omega)) h11)
    refine ab_s rfl ?_
    exact ab_ri rfl rfl
set_option maxRecDepth 100000 in
set_option maxHeartbeats 4000000 in
theorem m_held (M : MS w s n)  : ab_M X kX6_held [.ref 54] w (some (.int (nI (cntR (fun k => decide (0 ≤ s.getD (80 + k) 0)) 10)))) w := by
  obtain ⟨vs, hm, hv, hs, hl, h0, hn⟩ := id M
  show ab_G X kX6_held 0 [some (.ref 54), none, none] [] w _ _
  refine ab_k (y := 0) rfl rfl ?_
  refine ab_s rfl ?_
  refine ab_k (y := 0) rfl rfl ?_
  refine ab_s rfl ?_
  refine g_loop0 10 (fun i ls => ls = [some (.ref 54), some (.int (nI (cntR (fun k => decide (0 ≤ s.getD (80 + k) 0)) i))), some (.int (nI i))]) rfl (fun i ls hi hJ ih => ?_) (fun ls hJ => ?_)
  · subst hJ
    refine ab_s rfl ?_
    refine ab_k (y := 10) rfl rfl ?_
    refine j2_ge rfl rfl (fun h7 => absurd h7 (nI_ge (b := 10) hi (by omega))) (fun h7 => ?_)
    iterate 2 refine ab_s rfl ?_
    refine ab_gf rfl rfl rfl hm hv ?_
    refine ab_k (y := 80) rfl rfl ?_
    iterate 2 refine ab_s rfl ?_
    refine ab_ia (80 + i) rfl hs (by omega) (nI_add 80 i) (by omega) ?_
    refine j1_ge rfl rfl (fun h20 => ?_) (fun h20 => ?_)
    · refine ab_k (y := 1) rfl rfl ?_
      iterate 2 refine ab_s rfl ?_
      refine ab_ii rfl rfl rfl ?_
      refine ab_s rfl ?_
      exact ih _ (by first | (rw [← cnt_t (p := (fun k => decide (0 ≤ s.getD (80 + k) 0))) (decide_eq_true h20)]; rfl) | (rw [← cnt_f (p := (fun k => decide (0 ≤ s.getD (80 + k) 0))) (decide_eq_false h20)]; rfl))
    · refine ab_k (y := 0) rfl rfl ?_
      iterate 3 refine ab_s rfl ?_
      refine ab_ii rfl rfl rfl ?_
      refine ab_s rfl ?_
      exact ih _ (by first | (rw [← cnt_t (p := (fun k => decide (0 ≤ s.getD (80 + k) 0))) (decide_eq_true h20)]; rfl) | (rw [← cnt_f (p := (fun k => decide (0 ≤ s.getD (80 + k) 0))) (decide_eq_false h20)]; rfl))
  · subst hJ
    refine ab_s rfl ?_
    refine ab_k (y := 10) rfl rfl ?_
    refine j2_ge rfl rfl (fun h7 => ?_) (fun h7 => absurd (nI_le (a := 10) (b := 10) (Nat.le_refl _) (by omega)) h7)
    refine ab_s rfl ?_
    exact ab_ri rfl rfl
def cntI (s : List Int32) (n tn : Nat) (a : Int32) : Int32 := if a = 0 then nI n else if a = 1 then nI (cntR (dB s) 14) else if a = 2 then nI (cntR (fun h => decide (0 ≤ fld s h 1)) n) else if a = 3 then sumI (fun h => fld s h 6) n else if a = 4 then nI tn else if a = 5 then s.getD 1 0 else nI (cntR (fun k => decide (0 ≤ s.getD (80 + k) 0)) 10)
set_option maxRecDepth 100000 in
set_option maxHeartbeats 4000000 in
theorem m_count_k (R : MW w s n st ks kp tp tn bo so nu) (I : SI s n) (j : Nat) (hj : j < 7) : ab_Q X kX6_count [.ref 54, .int (nI j)] w (MP w (cntI s n tn (nI j)) s n st ks kp tp tn bo so nu) := by
  have M := R.ms
  have R0 := R
  obtain ⟨oth, nz, mv, fr, to, vl, wr, a54, a55, a56, a57, a58, a59, a60, a61, a62, a63, a64, l, h0, hn, ht⟩ := R
  show ab_H X kX6_count 0 [some (.ref 54), some (.int (nI j))] [] w _
  refine h_s rfl ?_
  match j, hj with
  | 0, _ =>
    refine h_sw rfl (by decide) rfl rfl ?_
    refine h_s rfl ?_
    refine h_gf rfl rfl rfl a54 rfl ?_
    refine h_k (y := 0) rfl rfl ?_
    refine h_ia 0 rfl a55 (by omega) rfl (by omega) ?_
    refine h_t h0 ?_
    exact h_ri rfl rfl (MP.same R0 _)
  | 1, _ =>
    refine h_sw rfl (by decide) rfl rfl ?_
    refine h_s rfl ?_
    refine h_cv rfl rfl rfl a54 rfl rfl (m_doors M I) ?_
    exact h_ri rfl rfl (MP.same R0 _)
  | 2, _ =>
    refine h_sw rfl (by decide) rfl rfl ?_
    refine h_s rfl ?_
    refine h_cv rfl rfl rfl a54 rfl rfl (m_stairs M) ?_
    exact h_ri rfl rfl (MP.same R0 _)
  | 3, _ =>
    refine h_sw rfl (by decide) rfl rfl ?_
    refine h_s rfl ?_
    refine h_cv rfl rfl rfl a54 rfl rfl (m_sleepers M) ?_
    exact h_ri rfl rfl (MP.same R0 _)
  | 4, _ =>
    refine h_sw rfl (by decide) rfl rfl ?_
    refine h_s rfl ?_
    refine h_gf rfl rfl rfl a54 rfl ?_
    exact h_ri rfl rfl (MP.same R0 _)
  | 5, _ =>
    refine h_sw rfl (by decide) rfl rfl ?_
    refine h_s rfl ?_
    refine h_gf rfl rfl rfl a54 rfl ?_
    refine h_k (y := 1) rfl rfl ?_
    refine h_ia 1 rfl a55 (by omega) rfl (by omega) ?_
    exact h_ri rfl rfl (MP.same R0 _)
  | 6, _ =>
    refine h_sw rfl (by decide) rfl rfl ?_
    refine h_s rfl ?_
    refine h_cv rfl rfl rfl a54 rfl rfl (m_held M) ?_
    exact h_ri rfl rfl (MP.same R0 _)
set_option maxRecDepth 100000 in
set_option maxHeartbeats 4000000 in
theorem m_count_b (R : MW w s n st ks kp tp tn bo so nu) (a : Int32) (hb : inN a 7 = false) : ab_Q X kX6_count [.ref 54, .int a] w (MP w (-1000001) s n (bump st 0) ks kp tp tn bo so nu) := by
  have M := R.ms
  have R0 := R
  obtain ⟨oth, nz, mv, fr, to, vl, wr, a54, a55, a56, a57, a58, a59, a60, a61, a62, a63, a64, l, h0, hn, ht⟩ := R
  show ab_H X kX6_count 0 [some (.ref 54), some (.int a)] [] w _
  refine h_s rfl ?_
  refine h_swd rfl (sw_out rfl hb) rfl ?_
  iterate 2 refine h_s rfl ?_
  refine hq_v rfl rfl rfl a54 rfl rfl (m_finds R0 0 (by omega) _ (by decide)) (fun v1 w1 q1 => ?_)
  obtain ⟨rfl, q2, q3⟩ := q1
  exact h_ri rfl rfl ⟨rfl, q2, q3⟩
theorem m_inS (x : Int32) : ab_M X kX6_in [.long x.toInt64, .long (-1), .long 6] w (some (.int (z01 (decide (-1 ≤ x.toInt ∧ x.toInt ≤ 6))))) w := by
  by_cases h : -1 ≤ x.toInt ∧ x.toInt ≤ 6
  · rw [decide_eq_true h]
    exact m_in1 (lo := -1) (hi := 6) rfl rfl h
  · rw [decide_eq_false h]
    exact m_in0 (lo := -1) (hi := 6) rfl rfl h
set_option maxRecDepth 100000 in
set_option maxHeartbeats 4000000 in
theorem m_status_b (R : MW w s n st ks kp tp tn bo so nu) (a : Int32) (hb : (decide (-1 ≤ a.toInt ∧ a.toInt ≤ 6)) = false)  : ab_Q X kX6_status [.ref 54, .int a] w (MP w (-1000001) s n (bump st 0) ks kp tp tn bo so nu) := by
  have M := R.ms
  have R0 := R
  obtain ⟨oth, nz, mv, fr, to, vl, wr, a54, a55, a56, a57, a58, a59, a60, a61, a62, a63, a64, l, h0, hn, ht⟩ := R
  show ab_H X kX6_status 0 [some (.ref 54), some (.int a), none, none] [] w _
  iterate 4 refine h_s rfl ?_
  refine h_c rfl (m_inS _) ?_
  refine hz_ne rfl rfl (fun h11 => ?_) (fun h11 => ?_)
  · exact absurd hb (by simp [h11])
  · iterate 2 refine h_s rfl ?_
    refine hq_v rfl rfl rfl a54 rfl rfl (m_finds R0 0 (by omega) _ (by decide)) (fun v1 w1 q1 => ?_)
    obtain ⟨rfl, q2, q3⟩ := q1
    exact h_ri rfl rfl ⟨rfl, q2, q3⟩
set_option maxRecDepth 100000 in
set_option maxHeartbeats 4000000 in
theorem m_status_k (R : MW w s n st ks kp tp tn bo so nu) (a : Int32) (ha : -1 ≤ a.toInt ∧ a.toInt ≤ 6) : ab_Q X kX6_status [.ref 54, .int a] w (MP w (sumI (statI st a) 7) s n st ks kp tp tn bo so nu) := by
  have M := R.ms
  have R0 := R
  obtain ⟨oth, nz, mv, fr, to, vl, wr, a54, a55, a56, a57, a58, a59, a60, a61, a62, a63, a64, l, h0, hn, ht⟩ := R
  show ab_H X kX6_status 0 [some (.ref 54), some (.int a), none, none] [] w _
  iterate 4 refine h_s rfl ?_
  refine h_c rfl (m_in1 (lo := -1) (hi := 6) rfl rfl ha) ?_
  refine h_s rfl ?_
  refine h_k (y := 0) rfl rfl ?_
  refine h_s rfl ?_
  refine h_k (y := 0) rfl rfl ?_
  refine h_s rfl ?_
  refine h_loop0 7 (fun i ls w1 => w1 = w ∧ ls = [some (.ref 54), some (.int a), some (.int (sumI (statI st a) i)), some (.int (nI i))]) ⟨rfl, rfl⟩ (fun i ls w1 hi hJ ih => ?_) (fun ls w1 hJ => ?_)
  · obtain ⟨rfl, rfl⟩ := hJ
    refine h_s rfl ?_
    refine h_k (y := 7) rfl rfl ?_
    refine h2_ge rfl rfl (fun h28 => absurd h28 (nI_ge (b := 7) hi (by omega))) (fun h28 => ?_)
    iterate 2 refine h_s rfl ?_
    refine h1_lt rfl rfl (fun h33 => ?_) (fun h33 => ?_)
    · refine h_s rfl ?_
      refine h_gf rfl rfl rfl a54 rfl ?_
      refine h_s rfl ?_
      refine h_ia i rfl a58 (by omega) rfl (by omega) ?_
      iterate 3 refine h_s rfl ?_
      refine h_ii rfl rfl rfl ?_
      refine h_s rfl ?_
      exact ih _ _ ⟨rfl, by first | (rw [sumI, statI, if_pos (Or.inl h33)]; rfl) | (rw [sumI, statI, if_pos (Or.inr h38)]; rfl) | (rw [sumI, statI, if_neg (fun q => q.elim h33 h38)]; rfl)⟩
    · iterate 2 refine h_s rfl ?_
      refine h2_ne rfl rfl (fun h38 => ?_) (fun h38 => ?_)
      · refine h_k (y := 0) rfl rfl ?_
        iterate 2 refine h_s rfl ?_
        refine h_ii rfl rfl rfl ?_
        refine h_s rfl ?_
        exact ih _ _ ⟨rfl, by first | (rw [sumI, statI, if_pos (Or.inl h33)]; rfl) | (rw [sumI, statI, if_pos (Or.inr h38)]; rfl) | (rw [sumI, statI, if_neg (fun q => q.elim h33 h38)]; rfl)⟩
      · refine h_s rfl ?_
        refine h_gf rfl rfl rfl a54 rfl ?_
        refine h_s rfl ?_
        refine h_ia i rfl a58 (by omega) rfl (by omega) ?_
        iterate 3 refine h_s rfl ?_
        refine h_ii rfl rfl rfl ?_
        refine h_s rfl ?_
        exact ih _ _ ⟨rfl, by first | (rw [sumI, statI, if_pos (Or.inl h33)]; rfl) | (rw [sumI, statI, if_pos (Or.inr h38)]; rfl) | (rw [sumI, statI, if_neg (fun q => q.elim h33 h38)]; rfl)⟩
  · obtain ⟨rfl, rfl⟩ := hJ
    refine h_s rfl ?_
    refine h_k (y := 7) rfl rfl ?_
    refine h2_ge rfl rfl (fun h28 => ?_) (fun h28 => absurd (nI_le (a := 7) (b := 7) (Nat.le_refl _) (by omega)) h28)
    refine h_s rfl ?_
    exact h_ri rfl rfl (MP.same R0 _)
set_option maxRecDepth 100000 in
set_option maxHeartbeats 4000000 in
theorem m_tear_k (R : MW w s n st ks kp tp tn bo so nu)  : ab_Q X kX6_tear [.ref 54] w (MP w (z01 kp) s n st ks false tp tn bo so nu) := by
  have M := R.ms
  have R0 := R
  obtain ⟨oth, nz, mv, fr, to, vl, wr, a54, a55, a56, a57, a58, a59, a60, a61, a62, a63, a64, l, h0, hn, ht⟩ := R
  show ab_H X kX6_tear 0 [some (.ref 54), none] [] w _
  refine h_s rfl ?_
  refine h_gf rfl rfl rfl a54 rfl ?_
  refine hz_eq rfl rfl (fun h4 => ?_) (fun h4 => ?_)
  · refine h_k (y := 0) rfl rfl ?_
    iterate 2 refine h_s rfl ?_
    refine h_k (y := 0) rfl rfl ?_
    refine h_pf rfl rfl a54 rfl (fun w3 e3 f3 => ?_)
    refine h_s rfl ?_
    exact h_ri rfl (by rw [h4]; rfl) ⟨rfl, R0.o54 false tn fr to vl wr ht e3 f3, fun i hi => f3 i (by omega)⟩
  · refine h_k (y := 1) rfl rfl ?_
    iterate 3 refine h_s rfl ?_
    refine h_k (y := 0) rfl rfl ?_
    refine h_pf rfl rfl a54 rfl (fun w3 e3 f3 => ?_)
    refine h_s rfl ?_
    exact h_ri rfl (by rw [h4]; rfl) ⟨rfl, R0.o54 false tn fr to vl wr ht e3 f3, fun i hi => f3 i (by omega)⟩
set_option maxRecDepth 100000 in
set_option maxHeartbeats 4000000 in
theorem m_undo_n (R : MW w s n st ks kp tp tn bo so nu) (hk : kp = false) : ab_Q X kX6_undo [.ref 54] w (MP w (-1000004) s n (bump st 3) ks kp tp tn bo so nu) := by
  have M := R.ms
  have R0 := R
  obtain ⟨oth, nz, mv, fr, to, vl, wr, a54, a55, a56, a57, a58, a59, a60, a61, a62, a63, a64, l, h0, hn, ht⟩ := R
  show ab_H X kX6_undo 0 [some (.ref 54), none] [] w _
  subst hk
  refine h_s rfl ?_
  refine h_gf rfl rfl rfl a54 rfl ?_
  iterate 3 refine h_s rfl ?_
  refine hq_v rfl rfl rfl a54 rfl rfl (m_finds R0 3 (by omega) _ (by decide)) (fun v1 w1 q1 => ?_)
  obtain ⟨rfl, q2, q3⟩ := q1
  exact h_ri rfl rfl ⟨rfl, q2, q3⟩
set_option maxRecDepth 100000 in
set_option maxHeartbeats 4000000 in
theorem m_beds_k (R : MW w s n st ks kp tp tn bo so nu) (a : Int32) (ha : isN a n) : ab_Q X kX6_beds [.ref 54, .int a] w (MP w (bs (fun f => decide (fld s f 7 = a)) n) s n st ks kp tp tn bo so nu) := by
  have M := R.ms
  have R0 := R
  obtain ⟨oth, nz, mv, fr, to, vl, wr, a54, a55, a56, a57, a58, a59, a60, a61, a62, a63, a64, l, h0, hn, ht⟩ := R
  show ab_H X kX6_beds 0 [some (.ref 54), some (.int a), none, none] [] w _
  iterate 2 refine h_s rfl ?_
  refine h_cv rfl rfl rfl a54 rfl rfl (m_isHouse1 M ha) ?_
  refine h_s rfl ?_
  refine h_k (y := 0) rfl rfl ?_
  refine h_s rfl ?_
  refine h_k (y := 0) rfl rfl ?_
  refine h_s rfl ?_
  refine h_loop0 n (fun i ls w1 => w1 = w ∧ ls = [some (.ref 54), some (.int a), some (.int (bs (fun f => decide (fld s f 7 = a)) i)), some (.int (nI i))]) ⟨rfl, rfl⟩ (fun i ls w1 hi hJ ih => ?_) (fun ls w1 hJ => ?_)
  · obtain ⟨rfl, rfl⟩ := hJ
    iterate 2 refine h_s rfl ?_
    refine h_gf rfl rfl rfl a54 rfl ?_
    refine h_k (y := 0) rfl rfl ?_
    refine h_ia 0 rfl a55 (by omega) rfl (by omega) ?_
    refine h_t h0 ?_
    refine h2_ge rfl rfl (fun h26 => absurd h26 (nI_ge hi (by omega))) (fun h26 => ?_)
    iterate 3 refine h_s rfl ?_
    refine h_k (y := 7) rfl rfl ?_
    refine h_cv rfl rfl rfl a54 rfl rfl (m_its M i 7 (by omega) (by omega) rfl rfl) ?_
    refine h_s rfl ?_
    refine h2_ne rfl rfl (fun h38 => ?_) (fun h38 => ?_)
    · refine h_k (y := 0) rfl rfl ?_
      iterate 2 refine h_s rfl ?_
      refine h_ii rfl rfl rfl ?_
      refine h_s rfl ?_
      exact ih _ _ ⟨rfl, by first | (rw [← bs_succ_t (p := (fun f => decide (fld s f 7 = a))) (decide_eq_true h38)]; rfl) | (rw [← bs_succ_f0 (p := (fun f => decide (fld s f 7 = a))) (decide_eq_false h38)]; rfl)⟩
    · refine h_k (y := 1) rfl rfl ?_
      iterate 5 refine h_s rfl ?_
      refine h_ii rfl rfl rfl ?_
      refine h_s rfl ?_
      exact ih _ _ ⟨rfl, by first | (rw [← bs_succ_t (p := (fun f => decide (fld s f 7 = a))) (decide_eq_true h38)]; rfl) | (rw [← bs_succ_f0 (p := (fun f => decide (fld s f 7 = a))) (decide_eq_false h38)]; rfl)⟩
  · obtain ⟨rfl, rfl⟩ := hJ
    iterate 2 refine h_s rfl ?_
    refine h_gf rfl rfl rfl a54 rfl ?_
    refine h_k (y := 0) rfl rfl ?_
    refine h_ia 0 rfl a55 (by omega) rfl (by omega) ?_
    refine h_t h0 ?_
    refine h2_ge rfl rfl (fun h26 => ?_) (fun h26 => absurd (nI_le (Nat.le_refl _) (by omega)) h26)
    refine h_s rfl ?_
    exact h_ri rfl rfl (MP.same R0 _)
end MD
