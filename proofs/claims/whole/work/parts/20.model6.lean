/-! THE REFERENCE: lengths of ways -/
section WL
variable {adj : Nat → Nat → Bool} {op st : Nat → Bool}
theorem wB_16 {m : Nat} (hm : 16 ≤ m) {i : Nat} (hi : i < 16) : wB adj op st m i = wB adj op st 16 i := by
  by_cases h : ∀ j, j < 17 → ∃ i, i < 16 ∧ wB adj op st (j + 1) i = true ∧ wB adj op st j i = false
  · have h1 := wB_count h
    have h2 := cntR_le (wB adj op st 17) 16
    omega
  · obtain ⟨j, h1⟩ := Classical.not_forall.mp h
    obtain ⟨h2, h3⟩ := Classical.not_imp.mp h1
    have h4 : ∀ i, i < 16 → wB adj op st (j + 1) i = wB adj op st j i := by
      intro i hi
      cases h5 : wB adj op st j i with
      | true => exact wB_mono h5
      | false =>
        cases h6 : wB adj op st (j + 1) i with
        | false => rfl
        | true => exact absurd ⟨i, hi, h6, h5⟩ h3
    rw [wB_fix h4 m (by omega) i hi, wB_fix h4 16 (by omega) i hi]
def lenR (B : Nat → Nat → Bool) (room : Nat) : Nat → Nat
  | 0 => 0
  | m + 1 => if lenR B room m = 0 then (if B (m + 1) room then m + 1 else 0) else lenR B room m
theorem lenR_spec (B : Nat → Nat → Bool) (room : Nat) : ∀ m, (lenR B room m = 0 ∧ ∀ d, 1 ≤ d → d ≤ m → B d room = false) ∨ (1 ≤ lenR B room m ∧ lenR B room m ≤ m ∧ B (lenR B room m) room = true ∧ ∀ j, 1 ≤ j → j < lenR B room m → B j room = false)
  | 0 => Or.inl ⟨rfl, fun d _ _ => by omega⟩
  | m + 1 => by
    rcases lenR_spec B room m with ⟨h1, h2⟩ | ⟨h1, h2, h3, h4⟩
    · rw [lenR, if_pos h1]
      cases hb : B (m + 1) room with
      | true =>
        rw [if_pos rfl]
        exact Or.inr ⟨by omega, Nat.le_refl _, hb, fun j h5 h6 => h2 j h5 (by omega)⟩
      | false =>
        rw [if_neg (by decide)]
        refine Or.inl ⟨rfl, fun d h5 h6 => ?_⟩
        by_cases e : d = m + 1
        · rw [e, hb]
        · exact h2 d h5 (by omega)
    · rw [lenR, if_neg (by omega)]
      exact Or.inr ⟨h1, by omega, h3, h4⟩
def wayL (adj : Nat → Nat → Bool) (op st : Nat → Bool) (room : Nat) : Nat := lenR (wB adj op st) room 16
theorem wayL_len {room : Nat} (hr : room < 16) : isLen (wB adj op st) room (wayL adj op st room) := by
  rcases lenR_spec (wB adj op st) room 16 with ⟨h1, h2⟩ | ⟨h1, h2, h3, h4⟩
  · refine Or.inl ⟨h1, fun k => ?_⟩
    have hk : ∀ d, d ≤ 16 → wB adj op st d room = false := fun d hd => by
      by_cases e : d = 0
      · rw [e]; rfl
      · exact h2 d (by omega) hd
    by_cases hk16 : k ≤ 16
    · exact hk k hk16
    · rw [wB_16 (by omega) hr]
      exact hk 16 (by omega)
  · refine Or.inr ⟨h1, h3, fun j hj => ?_⟩
    by_cases e : j = 0
    · rw [e]; rfl
    · exact h4 j (by omega) hj
theorem wayL_le (room : Nat) : wayL adj op st room ≤ 16 := by
  rcases lenR_spec (wB adj op st) room 16 with ⟨h1, _⟩ | ⟨_, h2, _⟩
  · show lenR _ _ _ ≤ 16
    omega
  · exact h2
theorem len_a {k room : Nat} (hr : room < 16) (h : bs (fun i => wB adj op st (k + 1) i && !wB adj op st k i) 16 = 0) (hb : bt (bs (wB adj op st k) 16) room = false) : 0 = wayL adj op st room := by
  rw [bt_bs _ _ _ (by omega) (by omega), decide_eq_true hr, Bool.true_and] at hb
  rw [bs_zero (by omega)] at h
  refine isLen_inj (Or.inl ⟨rfl, fun m => ?_⟩) (wayL_len hr)
  have h4 : ∀ i, i < 16 → wB adj op st (k + 1) i = wB adj op st k i := by
    intro i hi
    have h5 := h i hi
    cases h6 : wB adj op st k i with
    | true => exact wB_mono h6
    | false => simpa [h6] using h5
  by_cases hm : k ≤ m
  · rw [wB_fix h4 m hm room hr, hb]
  · cases h6 : wB adj op st m room with
    | false => rfl
    | true => rw [wB_le (by omega) h6] at hb; cases hb
theorem len_b {k room : Nat} (hr : room < 16) (hk : ∀ j, j < k → wB adj op st j room = false) (hb : bt (bs (wB adj op st k) 16) room = true) : k = wayL adj op st room := by
  rw [bt_bs _ _ _ (by omega) (by omega), decide_eq_true hr, Bool.true_and] at hb
  refine isLen_inj (Or.inr ⟨?_, hb, hk⟩) (wayL_len hr)
  by_cases e : k = 0
  · subst e; cases hb
  · omega
theorem len_set {k : Nat} : bs (wB adj op st k) 16 ||| bs (fun i => wB adj op st (k + 1) i && !wB adj op st k i) 16 = bs (wB adj op st (k + 1)) 16 := by
  rw [bs_or (by omega)]
  refine bs_cong (fun i _ => ?_)
  cases h : wB adj op st k i with
  | true => rw [wB_mono h]; rfl
  | false => simp
theorem len_more {k : Nat} : bs (fun i => anyR (fun r => (wB adj op st (k + 1) r && !wB adj op st k r) && adj r i) 16 && op i) 16 &&& (bs (wB adj op st (k + 1)) 16 ^^^ (-1)) = bs (fun i => wB adj op st (k + 2) i && !wB adj op st (k + 1) i) 16 := by
  rw [bs_diff (by omega)]
  refine bs_cong (fun i _ => ?_)
  rw [← wB_next, Bool.and_comm (op i)]
theorem len_more0 : bs st 16 &&& bs op 16 = bs (fun i => wB adj op st 1 i && !wB adj op st 0 i) 16 := by
  rw [bs_and (by omega)]
  refine bs_cong (fun i _ => ?_)
  have h : anyR (fun r => wB adj op st 0 r && adj r i) 16 = false := by
    rw [Bool.eq_false_iff, ne_eq, anyR_iff]
    rintro ⟨r, _, h⟩
    cases h
  rw [show wB adj op st 1 i = (op i && (st i || anyR (fun r => wB adj op st 0 r && adj r i) 16)) from rfl, h, show wB adj op st 0 i = false from rfl, Bool.or_false, Bool.and_comm]
  simp
theorem len_new {k : Nat} (h : ¬ bs (fun i => wB adj op st (k + 1) i && !wB adj op st k i) 16 = 0) : ∃ i, i < 16 ∧ wB adj op st (k + 1) i = true ∧ wB adj op st k i = false := by
  rw [bs_zero (by omega)] at h
  obtain ⟨i, h1⟩ := Classical.not_forall.mp h
  obtain ⟨h2, h3⟩ := Classical.not_imp.mp h1
  refine ⟨i, h2, ?_⟩
  cases h4 : wB adj op st (k + 1) i <;> cases h5 : wB adj op st k i <;> simp_all
theorem len_17 (h : ∀ j, j < 17 → ∃ i, i < 16 ∧ wB adj op st (j + 1) i = true ∧ wB adj op st j i = false) : False := by
  have h1 := wB_count h
  have h2 := cntR_le (wB adj op st 17) 16
  omega
theorem len_r {k : Nat} (h : bs (fun i => wB adj op st (k + 1) i && !wB adj op st k i) 16 = 0) (hk : k < 17) : bs (wB adj op st k) 16 = bs (wB adj op st 16) 16 := by
  rw [bs_zero (by omega)] at h
  have h4 : ∀ i, i < 16 → wB adj op st (k + 1) i = wB adj op st k i := by
    intro i hi
    have h5 := h i hi
    cases h6 : wB adj op st k i with
    | true => exact wB_mono h6
    | false => simpa [h6] using h5
  exact bs_cong (fun i hi => (wB_fix h4 16 (by omega) i hi).symm)
end WL
def bedN (s : List Int32) (f : Nat) : Nat := (fld s f 7).toInt.toNat
theorem bedN_e {s : List Int32} {n f : Nat} (I : SI s n) (hn : n ≤ 8) (hf : f < n) : fld s f 7 = nI (bedN s f) ∧ bedN s f < n := by
  obtain ⟨b, h1, h2⟩ := (I.1 f hf).2.2.2.2.2.2.2
  have : bedN s f = b := by
    unfold bedN
    rw [h2, nI_toInt (by omega)]
    rfl
  rw [this]
  exact ⟨h2, h1⟩
def homeN (s : List Int32) (f : Nat) : Nat := 2 * bedN s f + 1
/-- the LENGTH of the shortest WAY home, 0: none -/
def wayF (s : List Int32) (n f : Nat) (c : Int32) : Nat := wayL (adjB s n) (opB s n f c) (gB n) (homeN s f)
def offB (s : List Int32) (n f : Nat) (c : Int32) : Bool := decide (wayF s n f c = 0)
section M6
variable {X : List Int32} {w : ab_W} {s : List Int32} {n : Nat}
set_option maxRecDepth 100000 in
set_option maxHeartbeats 4000000 in
theorem m_lengthOf (M : MS w s n) (I : SI s n) (st op : Nat → Bool) (hop : ∀ r, r < 16 → op r = true → r < 2 * n) (room : Nat) (hr : room < 16) : ab_M X kX6_lengthOf [.ref 54, .int (bs st 16), .int (nI room), .int (bs op 16)] w (some (.int (nI (wayL (adjB s n) op st room)))) w := by
  obtain ⟨vs, hm, hv, hs, hl, h0, hn⟩ := id M
  show ab_G X kX6_lengthOf 0 [some (.ref 54), some (.int (bs st 16)), some (.int (nI room)), some (.int (bs op 16)), none, none, none] [] w _ _
  refine ab_k (y := 0) rfl rfl ?_
  iterate 3 refine ab_s rfl ?_
  refine ab_s rfl ?_
  refine ab_t (len_more0 (adj := adjB s n)) ?_
  refine ab_s rfl ?_
  refine ab_k (y := 0) rfl rfl ?_
  refine ab_s rfl ?_
  refine g_loop0 17 (fun k ls => ls = [some (.ref 54), some (.int (bs st 16)), some (.int (nI room)), some (.int (bs op 16)), some (.int (bs (wB (adjB s n) op st k) 16)), some (.int (bs (fun i => wB (adjB s n) op st (k + 1) i && !wB (adjB s n) op st k i) 16)), some (.int (nI k))] ∧ (∀ j, j < k → ∃ i, i < 16 ∧ wB (adjB s n) op st (j + 1) i = true ∧ wB (adjB s n) op st j i = false) ∧ (∀ j, j < k → wB (adjB s n) op st j room = false)) ⟨by rw [show bs (wB (adjB s n) op st 0) 16 = 0 from (bs_zero (by omega)).mpr (fun _ _ => rfl)]; rfl, fun j hj => absurd hj (by omega), fun j hj => absurd hj (by omega)⟩ (fun k ls hk hJ ih => ?_) (fun ls hJ => (len_17 hJ.2.1).elim)
  obtain ⟨rfl, hj1, hj2⟩ := hJ
  refine ab_s rfl ?_
  refine j1_eq rfl rfl (fun h13 => ?_) (fun h13 => ?_)
  · iterate 2 refine ab_s rfl ?_
    refine ab_c rfl (m_has room (by omega)) ?_
    refine z1_eq rfl rfl (fun h59 => ?_) (fun h59 => ?_)
    · refine ab_k (y := 0) rfl rfl ?_
      exact ab_ri rfl (by first | exact congrArg nI (len_a hr h13 h59) | exact congrArg nI (len_b hr hj2 h59) | (rw [h22] at h59; cases h59))
    · iterate 2 refine ab_s rfl ?_
      exact ab_ri rfl (by first | exact congrArg nI (len_a hr h13 h59) | exact congrArg nI (len_b hr hj2 h59) | (rw [h22] at h59; cases h59))
  · iterate 2 refine ab_s rfl ?_
    refine ab_c rfl (m_has room (by omega)) ?_
    refine z1_ne rfl rfl (fun h22 => ?_) (fun h22 => ?_)
    · iterate 2 refine ab_s rfl ?_
      refine ab_c rfl (m_has room (by omega)) ?_
      refine z1_eq rfl rfl (fun h59 => ?_) (fun h59 => ?_)
      · refine ab_k (y := 0) rfl rfl ?_
        exact ab_ri rfl (by first | exact congrArg nI (len_a hr h13 h59) | exact congrArg nI (len_b hr hj2 h59) | (rw [h22] at h59; cases h59))
      · iterate 2 refine ab_s rfl ?_
        exact ab_ri rfl (by first | exact congrArg nI (len_a hr h13 h59) | exact congrArg nI (len_b hr hj2 h59) | (rw [h22] at h59; cases h59))
    · iterate 2 refine ab_s rfl ?_
      refine ab_s rfl ?_
      refine ab_t len_set ?_
      iterate 3 refine ab_s rfl ?_
      refine ab_cv rfl rfl rfl hm rfl rfl (m_joinedAll M I (fun i => wB (adjB s n) op st (k + 1) i && !wB (adjB s n) op st k i) (fun r hr h => by simp only [Bool.and_eq_true] at h; exact hop r hr (wB_op h.1))) ?_
      refine ab_s rfl ?_
      refine ab_s rfl ?_
      refine ab_t (bs_and (by omega)) ?_
      refine ab_s rfl ?_
      refine ab_k (y := (-1)) rfl rfl ?_
      refine ab_s rfl ?_
      refine ab_s rfl ?_
      refine ab_t len_more ?_
      refine ab_s rfl ?_
      refine ab_ii rfl rfl rfl ?_
      refine ab_s rfl ?_
      have hb : wB (adjB s n) op st k room = false := by
        rw [bt_bs _ _ _ (by omega) (by omega), decide_eq_true hr, Bool.true_and] at h22
        exact h22
      refine ih _ ⟨rfl, fun j hj => ?_, fun j hj => ?_⟩
      · by_cases e : j = k
        · rw [e]; exact len_new h13
        · exact hj1 j (by omega)
      · by_cases e : j = k
        · rw [e]; exact hb
        · exact hj2 j (by omega)
set_option maxRecDepth 100000 in
set_option maxHeartbeats 4000000 in
theorem m_homeOf (M : MS w s n) (I : SI s n) (f : Nat) (hf : f < n) : ab_M X kX6_homeOf [.ref 54, .int (nI f)] w (some (.int (nI (homeN s f)))) w := by
  obtain ⟨vs, hm, hv, hs, hl, h0, hn⟩ := id M
  obtain ⟨hb, -⟩ := bedN_e I hn hf
  show ab_G X kX6_homeOf 0 [some (.ref 54), some (.int (nI f))] [] w _ _
  refine ab_k (y := 2) rfl rfl ?_
  iterate 2 refine ab_s rfl ?_
  refine ab_k (y := 7) rfl rfl ?_
  refine ab_cv rfl rfl rfl hm rfl rfl (m_its M f 7 (by omega) (by omega) rfl rfl) ?_
  refine ab_t hb ?_
  refine ab_s rfl ?_
  refine ab_t (pk_mul 2 (bedN s f)) ?_
  refine ab_k (y := 1) rfl rfl ?_
  refine ab_s rfl ?_
  refine ab_t (nI_1 (2 * bedN s f)) ?_
  exact ab_ri rfl rfl
set_option maxRecDepth 100000 in
set_option maxHeartbeats 4000000 in
theorem opB_lt {f r : Nat} {c : Int32} (h : opB s n f c r = true) : r < 2 * n := by
  unfold opB at h
  simp only [Bool.and_eq_true, decide_eq_true_eq] at h
  omega
theorem homeN_lt (I : SI s n) (hn : n ≤ 8) {f : Nat} (hf : f < n) : homeN s f < 2 * n := by
  have := (bedN_e I hn hf).2
  unfold homeN
  omega
theorem m_wayHome (M : MS w s n) (I : SI s n) (f : Nat) (hf : f < n) (c : Int32) : ab_M X kX6_wayHome [.ref 54, .int (nI f), .int c] w (some (.int (nI (wayF s n f c)))) w := by
  obtain ⟨vs, hm, hv, hs, hl, h0, hn⟩ := id M
  have hh := homeN_lt I hn hf
  show ab_G X kX6_wayHome 0 [some (.ref 54), some (.int (nI f)), some (.int c)] [] w _ _
  iterate 2 refine ab_s rfl ?_
  refine ab_cv rfl rfl rfl hm rfl rfl (m_grounds M) ?_
  iterate 2 refine ab_s rfl ?_
  refine ab_cv rfl rfl rfl hm rfl rfl (m_homeOf M I f hf) ?_
  iterate 3 refine ab_s rfl ?_
  refine ab_cv rfl rfl rfl hm rfl rfl (m_openRooms M I f (by omega) c) ?_
  refine ab_cv rfl rfl rfl hm rfl rfl (m_lengthOf M I (gB n) (opB s n f c) (fun r _ h => opB_lt h) (homeN s f) (by omega)) ?_
  exact ab_ri rfl rfl
set_option maxRecDepth 100000 in
set_option maxHeartbeats 4000000 in
theorem m_isOff (M : MS w s n) (I : SI s n) (f : Nat) (hf : f < n) (c : Int32) : ab_M X kX6_isOff [.ref 54, .int (nI f), .int c] w (some (.int (z01 (offB s n f c)))) w := by
  obtain ⟨vs, hm, hv, hs, hl, h0, hn⟩ := id M
  have hw : wayF s n f c ≤ 16 := wayL_le _
  show ab_G X kX6_isOff 0 [some (.ref 54), some (.int (nI f)), some (.int c)] [] w _ _
  iterate 3 refine ab_s rfl ?_
  refine ab_cv rfl rfl rfl hm rfl rfl (m_wayHome M I f hf c) ?_
  refine j1_ne rfl rfl (fun h6 => ?_) (fun h6 => ?_)
  · refine ab_k (y := 0) rfl rfl ?_
    rw [show (0 : Int32) = nI 0 from rfl, nI_eq (by omega) (by omega)] at h6
    exact ab_ri rfl (by unfold offB; first | (rw [decide_eq_true h6]; rfl) | (rw [decide_eq_false h6]; rfl))
  · refine ab_k (y := 1) rfl rfl ?_
    refine ab_s rfl ?_
    rw [show (0 : Int32) = nI 0 from rfl, nI_eq (by omega) (by omega)] at h6
    exact ab_ri rfl (by unfold offB; first | (rw [decide_eq_true h6]; rfl) | (rw [decide_eq_false h6]; rfl))
set_option maxRecDepth 100000 in
set_option maxHeartbeats 4000000 in
theorem m_offSet (M : MS w s n) (I : SI s n) (c : Int32) : ab_M X kX6_offSet [.ref 54, .int c] w (some (.int (bs (fun f => offB s n f c) n))) w := by
  obtain ⟨vs, hm, hv, hs, hl, h0, hn⟩ := id M
  show ab_G X kX6_offSet 0 [some (.ref 54), some (.int c), none, none] [] w _ _
  refine ab_k (y := 0) rfl rfl ?_
  refine ab_s rfl ?_
  refine ab_k (y := 0) rfl rfl ?_
  refine ab_s rfl ?_
  refine g_loop0 n (fun i ls => ls = [some (.ref 54), some (.int c), some (.int (bs (fun f => offB s n f c) i)), some (.int (nI i))]) rfl (fun i ls hi hJ ih => ?_) (fun ls hJ => ?_)
  · subst hJ
    iterate 2 refine ab_s rfl ?_
    refine ab_gf rfl rfl rfl hm hv ?_
    refine ab_k (y := 0) rfl rfl ?_
    refine ab_ia 0 rfl hs (by omega) rfl (by omega) ?_
    refine ab_t h0 ?_
    refine j2_ge rfl rfl (fun h11 => absurd h11 (nI_ge  hi (by omega))) (fun h11 => ?_)
    iterate 4 refine ab_s rfl ?_
    refine ab_cv rfl rfl rfl hm rfl rfl (m_isOff M I i hi c) ?_
    refine z1_eq rfl rfl (fun h21 => ?_) (fun h21 => ?_)
    · refine ab_k (y := 0) rfl rfl ?_
      iterate 2 refine ab_s rfl ?_
      refine ab_ii rfl rfl rfl ?_
      refine ab_s rfl ?_
      exact ih _ (by first | (rw [← bs_succ_t (p := (fun f => offB s n f c)) h21]; rfl) | (rw [← bs_succ_f0 (p := (fun f => offB s n f c)) h21]; rfl))
    · refine ab_k (y := 1) rfl rfl ?_
      iterate 5 refine ab_s rfl ?_
      refine ab_ii rfl rfl rfl ?_
      refine ab_s rfl ?_
      exact ih _ (by first | (rw [← bs_succ_t (p := (fun f => offB s n f c)) h21]; rfl) | (rw [← bs_succ_f0 (p := (fun f => offB s n f c)) h21]; rfl))
  · subst hJ
    iterate 2 refine ab_s rfl ?_
    refine ab_gf rfl rfl rfl hm hv ?_
    refine ab_k (y := 0) rfl rfl ?_
    refine ab_ia 0 rfl hs (by omega) rfl (by omega) ?_
    refine ab_t h0 ?_
    refine j2_ge rfl rfl (fun h11 => ?_) (fun h11 => absurd (nI_le  (Nat.le_refl _) (by omega)) h11)
    refine ab_s rfl ?_
    exact ab_ri rfl rfl
set_option maxRecDepth 100000 in
set_option maxHeartbeats 4000000 in
theorem m_offHours (M : MS w s n) (I : SI s n) (f : Nat) (hf : f < n) : ab_M X kX6_offHours [.ref 54, .int (nI f)] w (some (.int (bs (fun c => offB s n f (nI c)) 24))) w := by
  obtain ⟨vs, hm, hv, hs, hl, h0, hn⟩ := id M
  show ab_G X kX6_offHours 0 [some (.ref 54), some (.int (nI f)), none, none] [] w _ _
  refine ab_k (y := 0) rfl rfl ?_
  refine ab_s rfl ?_
  refine ab_k (y := 0) rfl rfl ?_
  refine ab_s rfl ?_
  refine g_loop0 24 (fun i ls => ls = [some (.ref 54), some (.int (nI f)), some (.int (bs (fun c => offB s n f (nI c)) i)), some (.int (nI i))]) rfl (fun i ls hi hJ ih => ?_) (fun ls hJ => ?_)
  · subst hJ
    refine ab_s rfl ?_
    refine ab_k (y := 24) rfl rfl ?_
    refine j2_ge rfl rfl (fun h7 => absurd h7 (nI_ge (b := 24) hi (by omega))) (fun h7 => ?_)
    iterate 4 refine ab_s rfl ?_
    refine ab_cv rfl rfl rfl hm rfl rfl (m_isOff M I f hf (nI i)) ?_
    refine z1_eq rfl rfl (fun h17 => ?_) (fun h17 => ?_)
    · refine ab_k (y := 0) rfl rfl ?_
      iterate 2 refine ab_s rfl ?_
      refine ab_ii rfl rfl rfl ?_
      refine ab_s rfl ?_
      exact ih _ (by first | (rw [← bs_succ_t (p := (fun c => offB s n f (nI c))) h17]; rfl) | (rw [← bs_succ_f0 (p := (fun c => offB s n f (nI c))) h17]; rfl))
    · refine ab_k (y := 1) rfl rfl ?_
      iterate 5 refine ab_s rfl ?_
      refine ab_ii rfl rfl rfl ?_
      refine ab_s rfl ?_
      exact ih _ (by first | (rw [← bs_succ_t (p := (fun c => offB s n f (nI c))) h17]; rfl) | (rw [← bs_succ_f0 (p := (fun c => offB s n f (nI c))) h17]; rfl))
  · subst hJ
    refine ab_s rfl ?_
    refine ab_k (y := 24) rfl rfl ?_
    refine j2_ge rfl rfl (fun h7 => ?_) (fun h7 => absurd (nI_le (a := 24) (b := 24) (Nat.le_refl _) (by omega)) h7)
    refine ab_s rfl ?_
    exact ab_ri rfl rfl
set_option maxRecDepth 100000 in
set_option maxHeartbeats 4000000 in
theorem m_reached (M : MS w s n) (I : SI s n) (f : Nat) (hf : f < n) (c : Int32) : ab_M X kX6_reached [.ref 54, .int (nI f), .int c] w (some (.int (bs (wB (adjB s n) (opB s n f c) (gB n) 16) 16))) w := by
  obtain ⟨vs, hm, hv, hs, hl, h0, hn⟩ := id M
  show ab_G X kX6_reached 0 [some (.ref 54), some (.int (nI f)), some (.int c), none, none, none] [] w _ _
  iterate 3 refine ab_s rfl ?_
  refine ab_cv rfl rfl rfl hm rfl rfl (m_openRooms M I f (by omega) c) ?_
  refine ab_s rfl ?_
  refine ab_k (y := 0) rfl rfl ?_
  iterate 2 refine ab_s rfl ?_
  refine ab_cv rfl rfl rfl hm rfl rfl (m_grounds M) ?_
  refine ab_s rfl ?_
  refine ab_s rfl ?_
  refine ab_t (len_more0 (adj := adjB s n)) ?_
  refine ab_s rfl ?_
  refine g_loop0 17 (fun k ls => ls = [some (.ref 54), some (.int (nI f)), some (.int c), some (.int (bs (opB s n f c) 16)), some (.int (bs (wB (adjB s n) (opB s n f c) (gB n) k) 16)), some (.int (bs (fun i => wB (adjB s n) (opB s n f c) (gB n) (k + 1) i && !wB (adjB s n) (opB s n f c) (gB n) k i) 16))] ∧ (∀ j, j < k → ∃ i, i < 16 ∧ wB (adjB s n) (opB s n f c) (gB n) (j + 1) i = true ∧ wB (adjB s n) (opB s n f c) (gB n) j i = false)) ⟨by rw [show bs (wB (adjB s n) (opB s n f c) (gB n) 0) 16 = 0 from (bs_zero (by omega)).mpr (fun _ _ => rfl)]; rfl, fun j hj => absurd hj (by omega)⟩ (fun k ls hk hJ ih => ?_) (fun ls hJ => (len_17 hJ.2).elim)
  obtain ⟨rfl, hj1⟩ := hJ
  refine ab_s rfl ?_
  refine j1_eq rfl rfl (fun h20 => ?_) (fun h20 => ?_)
  · refine ab_s rfl ?_
    exact ab_ri rfl (len_r h20 hk)
  · iterate 2 refine ab_s rfl ?_
    refine ab_s rfl ?_
    refine ab_t len_set ?_
    iterate 3 refine ab_s rfl ?_
    refine ab_cv rfl rfl rfl hm rfl rfl (m_joinedAll M I (fun i => wB (adjB s n) (opB s n f c) (gB n) (k + 1) i && !wB (adjB s n) (opB s n f c) (gB n) k i) (fun r hr h => by simp only [Bool.and_eq_true] at h; exact opB_lt (wB_op h.1))) ?_
    refine ab_s rfl ?_
    refine ab_s rfl ?_
    refine ab_t (bs_and (by omega)) ?_
    refine ab_s rfl ?_
    refine ab_k (y := (-1)) rfl rfl ?_
    refine ab_s rfl ?_
    refine ab_s rfl ?_
    refine ab_t len_more ?_
    iterate 2 refine ab_s rfl ?_
    refine ih _ ⟨rfl, fun j hj => ?_⟩
    by_cases e : j = k
    · rw [e]; exact len_new h20
    · exact hj1 j (by omega)
end M6
