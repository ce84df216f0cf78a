/-! BOTH PROGRAMS SIDE BY SIDE: each call -/
section PB
variable {X : List Int32} {w : ab_W}
set_option maxRecDepth 100000 in
set_option maxHeartbeats 4000000 in
theorem p_of (a b : Int32) (h : LW w) : PQ X kX5_of kX6_of [.ref 0, .int a, .int b] [.ref 54, .int a, .int b] w := by
  obtain ⟨s, n, st, ks, kp, tp, tn, bo, so, nu, R, M, J⟩ := h
  have hn : n ≤ 8 := M.n8
  have I := J.1
  have hl : s.length = 90 := R.2.1.2.2.2.2.2.1
  cases hb : (inN a n && inN b 8) with
  | false =>
    exact pair M (x_of_b R a b hb) (fun w1 M => m_of_b M a b hb) J
  | true =>
    simp only [Bool.and_eq_true] at hb
    obtain ⟨h1, h2⟩ := hb
    obtain ⟨i, hi, rfl⟩ := inN_t (by omega) h1
    obtain ⟨k, hk, rfl⟩ := inN_t (by omega) h2
    exact pair M (x_of_k R i k hi hk) (fun w1 M => m_of_k M i k hi hk) J
set_option maxRecDepth 100000 in
set_option maxHeartbeats 4000000 in
theorem p_lets (a b c : Int32) (h : LW w) : PQ X kX5_lets kX6_lets [.ref 0, .int a, .int b, .int c] [.ref 54, .int a, .int b, .int c] w := by
  obtain ⟨s, n, st, ks, kp, tp, tn, bo, so, nu, R, M, J⟩ := h
  have hn : n ≤ 8 := M.n8
  have I := J.1
  have hl : s.length = 90 := R.2.1.2.2.2.2.2.1
  cases hb : (inN a n && (inN b n && inN c 24)) with
  | false =>
    exact pair M (x_lets_b R a b c hb) (fun w1 M => m_lets_b M a b c hb) J
  | true =>
    simp only [Bool.and_eq_true] at hb
    obtain ⟨h1, h2, h3⟩ := hb
    obtain ⟨i, hi, rfl⟩ := inN_t (by omega) h1
    obtain ⟨f, hf, rfl⟩ := inN_t (by omega) h2
    obtain ⟨k, hk, rfl⟩ := inN_t (by omega) h3
    exact pair M (x_lets_k R I i f k hi hf hk) (fun w1 M => m_lets_k M I i f k hi hf hk) J
set_option maxRecDepth 100000 in
set_option maxHeartbeats 4000000 in
theorem p_letting (a b : Int32) (h : LW w) : PQ X kX5_letting kX6_letting [.ref 0, .int a, .int b] [.ref 54, .int a, .int b] w := by
  obtain ⟨s, n, st, ks, kp, tp, tn, bo, so, nu, R, M, J⟩ := h
  have hn : n ≤ 8 := M.n8
  have I := J.1
  have hl : s.length = 90 := R.2.1.2.2.2.2.2.1
  cases hb : (inN a n && inN b 24) with
  | false =>
    exact pair M (x_letting_b R a b hb) (fun w1 M => m_letting_b M a b hb) J
  | true =>
    simp only [Bool.and_eq_true] at hb
    obtain ⟨h1, h2⟩ := hb
    obtain ⟨f, hf, rfl⟩ := inN_t (by omega) h1
    obtain ⟨k, hk, rfl⟩ := inN_t (by omega) h2
    exact pair M (x_letting_k R I f k hf hk) (fun w1 M => m_letting_k M I f k hf hk) J
set_option maxRecDepth 100000 in
set_option maxHeartbeats 4000000 in
theorem p_joined (a : Int32) (h : LW w) : PQ X kX5_joined kX6_joined [.ref 0, .int a] [.ref 54, .int a] w := by
  obtain ⟨s, n, st, ks, kp, tp, tn, bo, so, nu, R, M, J⟩ := h
  have hn : n ≤ 8 := M.n8
  have I := J.1
  have hl : s.length = 90 := R.2.1.2.2.2.2.2.1
  cases hb : (inN a (2 * n)) with
  | false =>
    exact pair M (x_joined_b R a hb) (fun w1 M => m_joined_b M a hb) J
  | true =>
    have h1 := hb
    obtain ⟨i, hi, rfl⟩ := inN_t (by omega) h1
    exact pair M (x_joined_k R I i hi) (fun w1 M => m_joined_k M I i hi) J
set_option maxRecDepth 100000 in
set_option maxHeartbeats 4000000 in
theorem p_way (a b c : Int32) (h : LW w) : PQ X kX5_way kX6_way [.ref 0, .int a, .int b, .int c] [.ref 54, .int a, .int b, .int c] w := by
  obtain ⟨s, n, st, ks, kp, tp, tn, bo, so, nu, R, M, J⟩ := h
  have hn : n ≤ 8 := M.n8
  have I := J.1
  have hl : s.length = 90 := R.2.1.2.2.2.2.2.1
  cases hb : ((inN a n && inN c 24) && inN b (2 * n)) with
  | false =>
    exact pair M (x_way_b R a b c hb) (fun w1 M => m_way_b M a b c hb) J
  | true =>
    simp only [Bool.and_eq_true] at hb
    obtain ⟨⟨h1, h2⟩, h3⟩ := hb
    obtain ⟨f, hf, rfl⟩ := inN_t (by omega) h1
    obtain ⟨k, hk, rfl⟩ := inN_t (by omega) h2
    obtain ⟨i, hi, rfl⟩ := inN_t (by omega) h3
    obtain ⟨L, hL⟩ : ∃ q, wayL (adjB s n) (opB s n f (nI k)) (gB n) i = q := ⟨_, rfl⟩
    by_cases hz : L = 0
    · exact pair M (q_imp (x_way_k R I f i k hf hi hk L hL) (fun v w1 q => Eq.mp (if_pos hz) q)) (fun w1 M => q_imp (m_way_k M I f i k hf hi hk L hL) (fun v w2 q => Eq.mp (if_pos hz) q)) J
    · exact pair M (q_imp (x_way_k R I f i k hf hi hk L hL) (fun v w1 q => Eq.mp (if_neg hz) q)) (fun w1 M => q_imp (m_way_k M I f i k hf hi hk L hL) (fun v w2 q => Eq.mp (if_neg hz) q)) J
set_option maxRecDepth 100000 in
set_option maxHeartbeats 4000000 in
theorem p_noise (a b c : Int32) (h : LW w) : PQ X kX5_noise kX6_noise [.ref 0, .int a, .int b, .int c] [.ref 54, .int a, .int b, .int c] w := by
  obtain ⟨s, n, st, ks, kp, tp, tn, bo, so, nu, R, M, J⟩ := h
  have hn : n ≤ 8 := M.n8
  have I := J.1
  have hl : s.length = 90 := R.2.1.2.2.2.2.2.1
  cases hb : ((inN a n && inN c 24) && inN b (2 * n)) with
  | false =>
    exact pair M (x_noise_b R a b c hb) (fun w1 M => m_noise_b M a b c hb) J
  | true =>
    simp only [Bool.and_eq_true] at hb
    obtain ⟨⟨h1, h2⟩, h3⟩ := hb
    obtain ⟨f, hf, rfl⟩ := inN_t (by omega) h1
    obtain ⟨k, hk, rfl⟩ := inN_t (by omega) h2
    obtain ⟨i, hi, rfl⟩ := inN_t (by omega) h3
    obtain ⟨L, hL⟩ : ∃ q, noiN s n f (nI k) 16 i = q := ⟨_, rfl⟩
    by_cases hz : L = 999
    · exact pair M (q_imp (x_noise_k R I f i k hf hi hk L hL) (fun v w1 q => Eq.mp (if_pos hz) q)) (fun w1 M => q_imp (m_noise_k M I f i k hf hi hk L hL) (fun v w2 q => Eq.mp (if_pos hz) q)) J
    · exact pair M (q_imp (x_noise_k R I f i k hf hi hk L hL) (fun v w1 q => Eq.mp (if_neg hz) q)) (fun w1 M => q_imp (m_noise_k M I f i k hf hi hk L hL) (fun v w2 q => Eq.mp (if_neg hz) q)) J
set_option maxRecDepth 100000 in
set_option maxHeartbeats 4000000 in
theorem p_step (a b c : Int32) (h : LW w) : PQ X kX5_step kX6_step [.ref 0, .int a, .int b, .int c] [.ref 54, .int a, .int b, .int c] w := by
  obtain ⟨s, n, st, ks, kp, tp, tn, bo, so, nu, R, M, J⟩ := h
  have hn : n ≤ 8 := M.n8
  have I := J.1
  have hl : s.length = 90 := R.2.1.2.2.2.2.2.1
  cases hb : ((inN a n && inN b 24) && inN c 16) with
  | false =>
    exact pair M (x_step_b R a b c hb) (fun w1 M => m_step_b M a b c hb) J
  | true =>
    simp only [Bool.and_eq_true] at hb
    obtain ⟨⟨h1, h2⟩, h3⟩ := hb
    obtain ⟨f, hf, rfl⟩ := inN_t (by omega) h1
    obtain ⟨k, hk, rfl⟩ := inN_t (by omega) h2
    obtain ⟨i, hi, rfl⟩ := inN_t (by omega) h3
    obtain ⟨L, hL⟩ : ∃ q, wayF s n f (nI k) = q := ⟨_, rfl⟩
    by_cases hz : L ≤ i
    · exact pair M (q_imp (x_step_k R I f k i hf hk hi L hL) (fun v w1 q => Eq.mp (if_pos hz) q)) (fun w1 M => q_imp (m_step_k M I f k i hf hk hi L hL) (fun v w2 q => Eq.mp (if_pos hz) q)) J
    · exact pair M (q_imp (x_step_k R I f k i hf hk hi L hL) (fun v w1 q => Eq.mp (if_neg hz) q)) (fun w1 M => q_imp (m_step_k M I f k i hf hk hi L hL) (fun v w2 q => Eq.mp (if_neg hz) q)) J
set_option maxRecDepth 100000 in
set_option maxHeartbeats 4000000 in
theorem p_reach (a b : Int32) (h : LW w) : PQ X kX5_reach kX6_reach [.ref 0, .int a, .int b] [.ref 54, .int a, .int b] w := by
  obtain ⟨s, n, st, ks, kp, tp, tn, bo, so, nu, R, M, J⟩ := h
  have hn : n ≤ 8 := M.n8
  have I := J.1
  have hl : s.length = 90 := R.2.1.2.2.2.2.2.1
  cases hb : (inN a n && inN b 24) with
  | false =>
    exact pair M (x_reach_b R a b hb) (fun w1 M => m_reach_b M a b hb) J
  | true =>
    simp only [Bool.and_eq_true] at hb
    obtain ⟨h1, h2⟩ := hb
    obtain ⟨f, hf, rfl⟩ := inN_t (by omega) h1
    obtain ⟨k, hk, rfl⟩ := inN_t (by omega) h2
    exact pair M (x_reach_k R I f k hf hk) (fun w1 M => m_reach_k M I f k hf hk) J
set_option maxRecDepth 100000 in
set_option maxHeartbeats 4000000 in
theorem p_off (a : Int32) (h : LW w) : PQ X kX5_off kX6_off [.ref 0, .int a] [.ref 54, .int a] w := by
  obtain ⟨s, n, st, ks, kp, tp, tn, bo, so, nu, R, M, J⟩ := h
  have hn : n ≤ 8 := M.n8
  have I := J.1
  have hl : s.length = 90 := R.2.1.2.2.2.2.2.1
  cases hb : (inN a 24) with
  | false =>
    exact pair M (x_off_b R a hb) (fun w1 M => m_off_b M a hb) J
  | true =>
    have h1 := hb
    obtain ⟨k, hk, rfl⟩ := inN_t (by omega) h1
    exact pair M (x_off_k R I k hk) (fun w1 M => m_off_k M I k hk) J
set_option maxRecDepth 100000 in
set_option maxHeartbeats 4000000 in
theorem p_hours (a : Int32) (h : LW w) : PQ X kX5_hours kX6_hours [.ref 0, .int a] [.ref 54, .int a] w := by
  obtain ⟨s, n, st, ks, kp, tp, tn, bo, so, nu, R, M, J⟩ := h
  have hn : n ≤ 8 := M.n8
  have I := J.1
  have hl : s.length = 90 := R.2.1.2.2.2.2.2.1
  cases hb : (inN a n) with
  | false =>
    exact pair M (x_hours_b R a hb) (fun w1 M => m_hours_b M a hb) J
  | true =>
    have h1 := hb
    obtain ⟨f, hf, rfl⟩ := inN_t (by omega) h1
    exact pair M (x_hours_k R I f hf) (fun w1 M => m_hours_k M I f hf) J
set_option maxRecDepth 100000 in
set_option maxHeartbeats 4000000 in
theorem p_latest (a : Int32) (h : LW w) : PQ X kX5_latest kX6_latest [.ref 0, .int a] [.ref 54, .int a] w := by
  obtain ⟨s, n, st, ks, kp, tp, tn, bo, so, nu, R, M, J⟩ := h
  have hn : n ≤ 8 := M.n8
  have I := J.1
  have hl : s.length = 90 := R.2.1.2.2.2.2.2.1
  cases hb : (inN a n) with
  | false =>
    exact pair M (x_latest_b R a hb) (fun w1 M => m_latest_b M a hb) J
  | true =>
    have h1 := hb
    obtain ⟨f, hf, rfl⟩ := inN_t (by omega) h1
    obtain ⟨B, hB⟩ : ∃ q, lastI (fun c => offB s n f (nI c)) 24 = q := ⟨_, rfl⟩
    have hm : ∀ w1, MW w1 s n st ks kp tp tn bo so nu → ab_Q X kX6_latest [.ref 54, .int (nI f)] w1 (fun v w2 => if B < 0 then MP w1 (-1000004) s n (bump st 3) ks kp tp tn bo so nu v w2 else MP w1 B s n st ks kp tp tn bo so nu v w2) := fun w1 M => by
      have q := m_latest_k (X := X) M I f hf
      rw [hB] at q
      exact q
    by_cases hz : B < 0
    · exact pair M (q_imp (x_latest_k R I f hf B hB) (fun v w1 q => Eq.mp (if_pos hz) q)) (fun w1 M => q_imp (hm w1 M) (fun v w2 q => Eq.mp (if_pos hz) q)) J
    · exact pair M (q_imp (x_latest_k R I f hf B hB) (fun v w1 q => Eq.mp (if_neg hz) q)) (fun w1 M => q_imp (hm w1 M) (fun v w2 q => Eq.mp (if_neg hz) q)) J
set_option maxRecDepth 100000 in
set_option maxHeartbeats 4000000 in
theorem p_best (a : Int32) (h : LW w) : PQ X kX5_best kX6_best [.ref 0, .int a] [.ref 54, .int a] w := by
  obtain ⟨s, n, st, ks, kp, tp, tn, bo, so, nu, R, M, J⟩ := h
  have hn : n ≤ 8 := M.n8
  have I := J.1
  have hl : s.length = 90 := R.2.1.2.2.2.2.2.1
  cases hb : (inN a n) with
  | false =>
    exact pair M (x_best_b R a hb) (fun w1 M => m_best_b M a hb) J
  | true =>
    have h1 := hb
    obtain ⟨f, hf, rfl⟩ := inN_t (by omega) h1
    obtain ⟨B, hB⟩ : ∃ q, bestI (fun c => wayF s n f (nI c)) 24 = q := ⟨_, rfl⟩
    by_cases hz : B.1 < 0
    · exact pair M (q_imp (x_best_k R I f hf B hB) (fun v w1 q => Eq.mp (if_pos hz) q)) (fun w1 M => q_imp (m_best_k M I f hf B hB) (fun v w2 q => Eq.mp (if_pos hz) q)) J
    · exact pair M (q_imp (x_best_k R I f hf B hB) (fun v w1 q => Eq.mp (if_neg hz) q)) (fun w1 M => q_imp (m_best_k M I f hf B hB) (fun v w2 q => Eq.mp (if_neg hz) q)) J
set_option maxRecDepth 100000 in
set_option maxHeartbeats 4000000 in
theorem p_beds (a : Int32) (h : LW w) : PQ X kX5_beds kX6_beds [.ref 0, .int a] [.ref 54, .int a] w := by
  obtain ⟨s, n, st, ks, kp, tp, tn, bo, so, nu, R, M, J⟩ := h
  have hn : n ≤ 8 := M.n8
  have I := J.1
  have hl : s.length = 90 := R.2.1.2.2.2.2.2.1
  cases hb : (inN a n) with
  | false =>
    exact pair M (x_beds_b R a hb) (fun w1 M => m_beds_b M a hb) J
  | true =>
    have h1 := hb
    obtain ⟨f, hf, rfl⟩ := inN_t (by omega) h1
    exact pair M (x_beds_k R f hf) (fun w1 M => m_beds_k M (nI f) ⟨f, hf, rfl⟩) J
set_option maxRecDepth 100000 in
set_option maxHeartbeats 4000000 in
theorem p_ring (a : Int32) (h : LW w) : PQ X kX5_ring kX6_ring [.ref 0, .int a] [.ref 54, .int a] w := by
  obtain ⟨s, n, st, ks, kp, tp, tn, bo, so, nu, R, M, J⟩ := h
  have hn : n ≤ 8 := M.n8
  have I := J.1
  have hl : s.length = 90 := R.2.1.2.2.2.2.2.1
  cases hb : (inN a n) with
  | false =>
    exact pair M (x_ring_b R a hb) (fun w1 M => m_ring_b M a hb) J
  | true =>
    have h1 := hb
    obtain ⟨f, hf, rfl⟩ := inN_t (by omega) h1
    obtain ⟨L, hL⟩ : ∃ q, ringL s n f = q := ⟨_, rfl⟩
    by_cases hz : L = 0
    · exact pair M (q_imp (x_ring_k R I f hf L hL) (fun v w1 q => Eq.mp (if_pos hz) q)) (fun w1 M => q_imp (m_ring_k M I f hf L hL) (fun v w2 q => Eq.mp (if_pos hz) q)) J
    · exact pair M (q_imp (x_ring_k R I f hf L hL) (fun v w1 q => Eq.mp (if_neg hz) q)) (fun w1 M => q_imp (m_ring_k M I f hf L hL) (fun v w2 q => Eq.mp (if_neg hz) q)) J
set_option maxRecDepth 100000 in
set_option maxHeartbeats 4000000 in
theorem p_open (a : Int32) (h : LW w) : PQ X kX5_open kX6_open [.ref 0, .int a] [.ref 54, .int a] w := by
  obtain ⟨s, n, st, ks, kp, tp, tn, bo, so, nu, R, M, J⟩ := h
  have hn : n ≤ 8 := M.n8
  have I := J.1
  have hl : s.length = 90 := R.2.1.2.2.2.2.2.1
  cases hb : (inN a 24) with
  | false =>
    exact pair M (x_open_b R a hb) (fun w1 M => m_open_b M a hb) J
  | true =>
    have h1 := hb
    obtain ⟨k, hk, rfl⟩ := inN_t (by omega) h1
    obtain ⟨B, hB⟩ : ∃ q, bestD (fun d => !dB s d) (fun d => offN (s.set (66 + d) 1) n (nI k)) 14 = q := ⟨_, rfl⟩
    by_cases hz : B.1 < 0
    · exact pair M (q_imp (x_open_k R I k hk B hB) (fun v w1 q => Eq.mp (if_pos hz) q)) (fun w1 M => q_imp (m_open_k M I k hk B hB) (fun v w2 q => Eq.mp (if_pos hz) q)) J
    · exact pair M (q_imp (x_open_k R I k hk B hB) (fun v w1 q => Eq.mp (if_neg hz) q)) (fun w1 M => q_imp (m_open_k M I k hk B hB) (fun v w2 q => Eq.mp (if_neg hz) q)) J
set_option maxRecDepth 100000 in
set_option maxHeartbeats 4000000 in
theorem p_worth (a b : Int32) (h : LW w) : PQ X kX5_worth kX6_worth [.ref 0, .int a, .int b] [.ref 54, .int a, .int b] w := by
  obtain ⟨s, n, st, ks, kp, tp, tn, bo, so, nu, R, M, J⟩ := h
  have hn : n ≤ 8 := M.n8
  have I := J.1
  have hl : s.length = 90 := R.2.1.2.2.2.2.2.1
  cases hb : (inN a n && inN b 24) with
  | false =>
    exact pair M (x_worth_b R a b hb) (fun w1 M => m_worth_b M a b hb) J
  | true =>
    simp only [Bool.and_eq_true] at hb
    obtain ⟨h1, h2⟩ := hb
    obtain ⟨f, hf, rfl⟩ := inN_t (by omega) h1
    obtain ⟨k, hk, rfl⟩ := inN_t (by omega) h2
    exact pair M (x_worth_k R I f k hf hk) (fun w1 M => m_worth_k M I f k hf hk) J
set_option maxRecDepth 100000 in
set_option maxHeartbeats 4000000 in
theorem p_needs (a b : Int32) (h : LW w) : PQ X kX5_needs kX6_needs [.ref 0, .int a, .int b] [.ref 54, .int a, .int b] w := by
  obtain ⟨s, n, st, ks, kp, tp, tn, bo, so, nu, R, M, J⟩ := h
  have hn : n ≤ 8 := M.n8
  have I := J.1
  have hl : s.length = 90 := R.2.1.2.2.2.2.2.1
  cases hb : (inN a n && inN b 24) with
  | false =>
    exact pair M (x_needs_b R a b hb) (fun w1 M => m_needs_b M a b hb) J
  | true =>
    simp only [Bool.and_eq_true] at hb
    obtain ⟨h1, h2⟩ := hb
    obtain ⟨f, hf, rfl⟩ := inN_t (by omega) h1
    obtain ⟨k, hk, rfl⟩ := inN_t (by omega) h2
    obtain ⟨B, hB⟩ : ∃ q, (needB s n f (nI k)).1 = q := ⟨_, rfl⟩
    by_cases hz : B < 0
    · exact pair M (q_imp (x_needs_k R I f k hf hk B hB) (fun v w1 q => Eq.mp (if_pos hz) q)) (fun w1 M => q_imp (m_needs_k M I f k hf hk B hB) (fun v w2 q => Eq.mp (if_pos hz) q)) J
    · exact pair M (q_imp (x_needs_k R I f k hf hk B hB) (fun v w1 q => Eq.mp (if_neg hz) q)) (fun w1 M => q_imp (m_needs_k M I f k hf hk B hB) (fun v w2 q => Eq.mp (if_neg hz) q)) J
set_option maxRecDepth 100000 in
set_option maxHeartbeats 4000000 in
theorem p_helps (a b : Int32) (h : LW w) : PQ X kX5_helps kX6_helps [.ref 0, .int a, .int b] [.ref 54, .int a, .int b] w := by
  obtain ⟨s, n, st, ks, kp, tp, tn, bo, so, nu, R, M, J⟩ := h
  have hn : n ≤ 8 := M.n8
  have I := J.1
  have hl : s.length = 90 := R.2.1.2.2.2.2.2.1
  cases hb : (inN a n && inN b 24) with
  | false =>
    exact pair M (x_helps_b R a b hb) (fun w1 M => m_helps_b M a b hb) J
  | true =>
    simp only [Bool.and_eq_true] at hb
    obtain ⟨h1, h2⟩ := hb
    obtain ⟨f, hf, rfl⟩ := inN_t (by omega) h1
    obtain ⟨k, hk, rfl⟩ := inN_t (by omega) h2
    cases ho : offB s n f (nI k) with
    | false =>
      exact pair M (x_helps_z R I f k hf hk ho) (fun w1 M => m_helps_z M I f k hf hk ho) J
    | true =>
      exact pair M (x_helps_k R I f k hf hk ho) (fun w1 M => m_helps_k M I f k hf hk ho) J
set_option maxRecDepth 100000 in
set_option maxHeartbeats 4000000 in
theorem p_quarrel (a b c : Int32) (h : LW w) : PQ X kX5_quarrel kX6_quarrel [.ref 0, .int a, .int b, .int c] [.ref 54, .int a, .int b, .int c] w := by
  obtain ⟨s, n, st, ks, kp, tp, tn, bo, so, nu, R, M, J⟩ := h
  have hn : n ≤ 8 := M.n8
  have I := J.1
  have hl : s.length = 90 := R.2.1.2.2.2.2.2.1
  cases hb : (inN a n && inN b n && !decide (a = b) && inN c 24) with
  | false =>
    exact pair M (x_quarrel_b R a b c hb) (fun w1 M => m_quarrel_b M a b c hb) J
  | true =>
    simp only [Bool.and_eq_true] at hb
    obtain ⟨⟨⟨h1, h2⟩, h4⟩, h3⟩ := hb
    obtain ⟨f, hf, rfl⟩ := inN_t (by omega) h1
    obtain ⟨g, hg, rfl⟩ := inN_t (by omega) h2
    obtain ⟨k, hk, rfl⟩ := inN_t (by omega) h3
    have hne : ¬ f = g := fun q => by rw [q] at h4; simp at h4
    exact pair M (x_quarrel_k R I f g k hf hg hne hk) (fun w1 M => m_quarrel_k M I f g k hf hg hne hk) J
set_option maxRecDepth 100000 in
set_option maxHeartbeats 4000000 in
theorem p_share (a b c d : Int32) (h : LW w) : PQ X kX5_share kX6_share [.ref 0, .int a, .int b, .int c, .int d] [.ref 54, .int a, .int b, .int c, .int d] w := by
  obtain ⟨s, n, st, ks, kp, tp, tn, bo, so, nu, R, M, J⟩ := h
  have hn : n ≤ 8 := M.n8
  have I := J.1
  have hl : s.length = 90 := R.2.1.2.2.2.2.2.1
  cases hb : (inN a n && (inN b n && inN c 24) && inN d 2) with
  | false =>
    exact pair M (x_share_b R a b c d hb) (fun w1 M => m_share_b M a b c d hb) J
  | true =>
    simp only [Bool.and_eq_true] at hb
    obtain ⟨⟨h1, h2, h3⟩, h4⟩ := hb
    obtain ⟨i, hi, rfl⟩ := inN_t (by omega) h1
    obtain ⟨f, hf, rfl⟩ := inN_t (by omega) h2
    obtain ⟨k, hk, rfl⟩ := inN_t (by omega) h3
    obtain ⟨j, hj, rfl⟩ := inN_t (by omega) h4
    exact pair M (x_share_k R I i f k j hi hf hk hj) (fun w1 M => m_share_k M I i f k j hi hf hk hj) J
set_option maxRecDepth 100000 in
set_option maxHeartbeats 4000000 in
theorem p_law (a : Int32) (h : LW w) : PQ X kX5_law kX6_law [.ref 0, .int a] [.ref 54, .int a] w := by
  obtain ⟨s, n, st, ks, kp, tp, tn, bo, so, nu, R, M, J⟩ := h
  have hn : n ≤ 8 := M.n8
  have I := J.1
  have hl : s.length = 90 := R.2.1.2.2.2.2.2.1
  cases hb : (inN a 24) with
  | false =>
    exact pair M (x_law_b R a hb) (fun w1 M => m_law_b M a hb) J
  | true =>
    have h1 := hb
    obtain ⟨k, hk, rfl⟩ := inN_t (by omega) h1
    obtain ⟨L, hL⟩ : ∃ q, lawO s n (nI k) n = q := ⟨_, rfl⟩
    cases L with
    | none => exact pair M (x_law_k R I k hk _ hL) (fun w1 M => m_law_k M I k hk _ hL) J
    | some y => exact pair M (x_law_k R I k hk _ hL) (fun w1 M => m_law_k M I k hk _ hL) J
set_option maxRecDepth 100000 in
set_option maxHeartbeats 4000000 in
theorem p_fire (h : LW w) : PQ X kX5_fire kX6_fire [.ref 0] [.ref 54] w := by
  obtain ⟨s, n, st, ks, kp, tp, tn, bo, so, nu, R, M, J⟩ := h
  have hn : n ≤ 8 := M.n8
  have I := J.1
  have hl : s.length = 90 := R.2.1.2.2.2.2.2.1
  cases hL : fireI s n n with
  | none => exact pair M (q_imp (x_fire_k R I) (fun v w1 q => by rw [hL] at q; exact q)) (fun w1 M => q_imp (m_fire_k M I) (fun v w2 q => by rw [hL] at q; exact q)) J
  | some y => exact pair M (q_imp (x_fire_k R I) (fun v w1 q => by rw [hL] at q; exact q)) (fun w1 M => q_imp (m_fire_k M I) (fun v w2 q => by rw [hL] at q; exact q)) J
set_option maxRecDepth 100000 in
set_option maxHeartbeats 4000000 in
theorem p_swaps (h : LW w) : PQ X kX5_swaps kX6_swaps [.ref 0] [.ref 54] w := by
  obtain ⟨s, n, st, ks, kp, tp, tn, bo, so, nu, R, M, J⟩ := h
  have hn : n ≤ 8 := M.n8
  have I := J.1
  have hl : s.length = 90 := R.2.1.2.2.2.2.2.1
  cases hL : swapO s n with
  | none => exact pair M (q_imp (x_swaps_k R I) (fun v w1 q => by rw [hL] at q; exact q)) (fun w1 M => q_imp (m_swaps_k M I) (fun v w2 q => by rw [hL] at q; exact q)) J
  | some y => exact pair M (q_imp (x_swaps_k R I) (fun v w1 q => by rw [hL] at q; exact q)) (fun w1 M => q_imp (m_swaps_k M I) (fun v w2 q => by rw [hL] at q; exact q)) J
end PB
