/-! BOTH PROGRAMS SIDE BY SIDE: each call, the rest -/
section PC
variable {X : List Int32} {w : ab_W}
theorem in_rng {x : Int32} {lo hi : Nat} (h : (lo : Int) ≤ x.toInt ∧ x.toInt ≤ hi) (hh : hi < 2 ^ 31) : ∃ m, lo ≤ m ∧ m ≤ hi ∧ x = nI m := by
  refine ⟨x.toInt.toNat, by omega, by omega, ?_⟩
  apply Int32.toInt_inj.mp
  rw [nI_toInt (by omega)]
  omega
set_option maxRecDepth 100000 in
set_option maxHeartbeats 4000000 in
theorem p_house (a : Int32) (h : LW w) : PQ X kX5_house kX6_house [.ref 0, .int a] [.ref 54, .int a] w := by
  obtain ⟨s, n, st, ks, kp, tp, tn, bo, so, nu, R, M, J⟩ := h
  have hn : n ≤ 8 := M.n8
  have I := J.1
  have hl : s.length = 90 := R.2.1.2.2.2.2.2.1
  cases hb : (inN a 7) with
  | false =>
    exact pair M (x_house_b R a hb) (fun w1 M => m_house_b M a hb) J
  | true =>
    have h1 := hb
    obtain ⟨k, hk, rfl⟩ := inN_t (by omega) h1
    rcases Nat.lt_or_ge n 8 with h8 | h8
    · exact pair M (x_house_k R k hk h8) (fun w1 M => m_house_k M k hk h8) ⟨SI_new I hl h8 hk, J.2⟩
    · exact pair M (x_house_f R k hk (by omega)) (fun w1 M => m_house_f M k hk (by omega)) J
set_option maxRecDepth 100000 in
set_option maxHeartbeats 4000000 in
theorem p_change (a b c : Int32) (h : LW w) : PQ X kX5_change kX6_change [.ref 0, .int a, .int b, .int c] [.ref 54, .int a, .int b, .int c] w := by
  obtain ⟨s, n, st, ks, kp, tp, tn, bo, so, nu, R, M, J⟩ := h
  have hn : n ≤ 8 := M.n8
  have I := J.1
  have hl : s.length = 90 := R.2.1.2.2.2.2.2.1
  cases hb : (inN a n && partB n b c) with
  | false =>
    exact pair M (x_change_b R a b c hb) (fun w1 M => m_change_b M a b c hb) J
  | true =>
    simp only [Bool.and_eq_true] at hb
    obtain ⟨h1, h2⟩ := hb
    obtain ⟨i, hi, rfl⟩ := inN_t (by omega) h1
    have key : ∃ k, k < 8 ∧ b = nI k ∧ SI (s.set (2 + 8 * i + k) c) n := by
      have h2' := h2
      unfold partB at h2'
      split at h2'
      · rename_i q; exact ⟨0, by decide, q, SI_kind I hl (by omega) (inN_t (by omega) h2')⟩
      · split at h2'
        · rename_i q
          rcases q with q | q
          · exact ⟨3, by decide, q, SI_from I hl (by omega) (inN_t (by omega) h2')⟩
          · exact ⟨4, by decide, q, SI_to I hl (by omega) (inN_t (by omega) h2')⟩
        · split at h2'
          · rename_i q; exact ⟨6, by decide, q, SI_sleep I hl (by omega) (inN_t (by omega) h2')⟩
          · rw [Bool.and_eq_true, decide_eq_true_eq] at h2'
            exact ⟨7, by decide, h2'.1, SI_bed I hl (by omega) (inN_t (by omega) h2'.2)⟩
    obtain ⟨k, hk, rfl, I1⟩ := key
    exact pair M (x_change_k R i k c hi hk h2) (fun w1 M => m_change_k M i k c hi hk h2) ⟨I1, J.2⟩
set_option maxRecDepth 100000 in
set_option maxHeartbeats 4000000 in
theorem p_stair (a b : Int32) (h : LW w) : PQ X kX5_stair kX6_stair [.ref 0, .int a, .int b] [.ref 54, .int a, .int b] w := by
  obtain ⟨s, n, st, ks, kp, tp, tn, bo, so, nu, R, M, J⟩ := h
  have hn : n ≤ 8 := M.n8
  have I := J.1
  have hl : s.length = 90 := R.2.1.2.2.2.2.2.1
  cases hb : (wayOK n a b) with
  | false => exact pair M (x_stair_b R a b hb) (fun w1 M => m_stair_b M a b hb) J
  | true =>
    have hb' := hb
    unfold wayOK at hb'
    simp only [Bool.and_eq_true, Bool.not_eq_true', decide_eq_true_eq] at hb'
    obtain ⟨⟨⟨h1, h2⟩, h3⟩, h4⟩ := hb'
    obtain ⟨i, hi, rfl⟩ := inN_t (by omega) h1
    have hv : b = -1 ∨ b = 0 ∨ b = 1 := by
      rcases (show b.toInt = -1 ∨ b.toInt = 0 ∨ b.toInt = 1 by omega) with q | q | q
      · exact Or.inl (Int32.toInt_inj.mp q)
      · exact Or.inr (Or.inl (Int32.toInt_inj.mp q))
      · exact Or.inr (Or.inr (Int32.toInt_inj.mp q))
    rcases hv with rfl | rfl | rfl
    · exact pair M (x_stair_km R i hi) (fun w1 M => m_stair_km M i hi) ⟨SI_stair I hl (by omega) (Or.inl rfl), J.2⟩
    · have h0 : 0 < i := by
        rcases Nat.eq_zero_or_pos i with q | q
        · subst q
          exact absurd h3 (by decide)
        · exact q
      exact pair M (x_stair_k0 R i hi h0) (fun w1 M => m_stair_k0 M i hi h0) ⟨SI_stair I hl (by omega) (Or.inr ⟨i - 1, by omega, rfl, Or.inr (by omega)⟩), J.2⟩
    · have h7 : i < 7 := by
        rcases Nat.lt_or_ge i 7 with q | q
        · exact q
        · have : i = 7 := by omega
          subst this
          exact absurd h4 (by decide)
      exact pair M (x_stair_k1 R i hi h7) (fun w1 M => m_stair_k1 M i hi h7) ⟨SI_stair I hl (by omega) (Or.inr ⟨i + 1, by omega, rfl, Or.inl rfl⟩), J.2⟩
set_option maxRecDepth 100000 in
set_option maxHeartbeats 4000000 in
theorem p_name (a b c : Int32) (z : Bool) (h : LW w) : PQ X kX5_name kX6_name [.ref 0, .int a, .int b, .int c, .int (z01 z)] [.ref 54, .int a, .int b, .int c, .int (z01 z)] w := by
  obtain ⟨s, n, st, ks, kp, tp, tn, bo, so, nu, R, M, J⟩ := h
  have hn : n ≤ 8 := M.n8
  have I := J.1
  have hl : s.length = 90 := R.2.1.2.2.2.2.2.1
  cases hb : (inN a n && inN b 2 && inN c 8) with
  | false =>
    exact pair M (x_name_b R a b c z hb) (fun w1 M => m_name_b M a b c z hb) J
  | true =>
    simp only [Bool.and_eq_true] at hb
    obtain ⟨⟨h1, h2⟩, h3⟩ := hb
    obtain ⟨i, hi, rfl⟩ := inN_t (by omega) h1
    obtain ⟨j, hj, rfl⟩ := inN_t (by omega) h2
    obtain ⟨f, hf, rfl⟩ := inN_t (by omega) h3
    obtain ⟨-, -, a2, -, -, a5, -, -⟩ := I.1 i hi
    rcases (show j = 0 ∨ j = 1 by omega) with rfl | rfl
    · exact pair M (x_name_k0 R i f z hi hf) (fun w1 M => m_name_k0 M i f z hi hf) ⟨SI_leave I hl (by omega) (inn_mark z a2 hf), J.2⟩
    · exact pair M (x_name_k1 R i f z hi hf) (fun w1 M => m_name_k1 M i f z hi hf) ⟨SI_foes I hl (by omega) (inn_mark z a5 hf), J.2⟩
set_option maxRecDepth 100000 in
set_option maxHeartbeats 4000000 in
theorem p_door (a : Int32) (z : Bool) (h : LW w) : PQ X kX5_door kX6_door [.ref 0, .int a, .int (z01 z)] [.ref 54, .int a, .int (z01 z)] w := by
  obtain ⟨s, n, st, ks, kp, tp, tn, bo, so, nu, R, M, J⟩ := h
  have hn : n ≤ 8 := M.n8
  have I := J.1
  have hl : s.length = 90 := R.2.1.2.2.2.2.2.1
  cases hb : (inN a 14) with
  | false =>
    exact pair M (x_door_b R a z hb) (fun w1 M => m_door_b M a z hb) J
  | true =>
    have h1 := hb
    obtain ⟨d, hd, rfl⟩ := inN_t (by omega) h1
    exact pair M (x_door_k R I d z hd) (fun w1 M => m_door_k M d z hd) ⟨SI_door I hl hn hd, J.2⟩
set_option maxRecDepth 100000 in
set_option maxHeartbeats 4000000 in
theorem p_seed (a : Int32) (h : LW w) : PQ X kX5_seed kX6_seed [.ref 0, .int a] [.ref 54, .int a] w := by
  obtain ⟨s, n, st, ks, kp, tp, tn, bo, so, nu, R, M, J⟩ := h
  have hn : n ≤ 8 := M.n8
  have I := J.1
  have hl : s.length = 90 := R.2.1.2.2.2.2.2.1
  exact pair M (x_seed_k R a) (fun w1 M => m_seed_k M a) ⟨SI_seed I hn a, J.2⟩
set_option maxRecDepth 100000 in
set_option maxHeartbeats 4000000 in
theorem p_hold (a b : Int32) (h : LW w) : PQ X kX5_hold kX6_hold [.ref 0, .int a, .int b] [.ref 54, .int a, .int b] w := by
  obtain ⟨s, n, st, ks, kp, tp, tn, bo, so, nu, R, M, J⟩ := h
  have hn : n ≤ 8 := M.n8
  have I := J.1
  have hl : s.length = 90 := R.2.1.2.2.2.2.2.1
  cases hb : (inN a 10 && (decide (b = -1) || inN b n)) with
  | false => exact pair M (x_hold_b R a b hb) (fun w1 M => m_hold_b M a b hb) J
  | true =>
    rw [Bool.and_eq_true] at hb
    obtain ⟨h1, h2⟩ := hb
    obtain ⟨k, hk, rfl⟩ := inN_t (by omega) h1
    have hb2 : b = -1 ∨ isN b n := by
      rw [Bool.or_eq_true, decide_eq_true_eq] at h2
      rcases h2 with q | q
      · exact Or.inl q
      · exact Or.inr (inN_t (by omega) q)
    exact pair M (x_hold_k R k b hk hb2) (fun w1 M => m_hold_k M k b hk hb2) ⟨SI_spot I hl hn hk hb2, J.2⟩
set_option maxRecDepth 100000 in
set_option maxHeartbeats 4000000 in
theorem p_as (a b : Int32) (h : LW w) : PQ X kX5_as kX6_as [.ref 0, .int a, .int b] [.ref 54, .int a, .int b] w := by
  obtain ⟨s, n, st, ks, kp, tp, tn, bo, so, nu, R, M, J⟩ := h
  have hn : n ≤ 8 := M.n8
  have I := J.1
  have hl : s.length = 90 := R.2.1.2.2.2.2.2.1
  cases hb : (inN a 10 && inN b 7) with
  | false =>
    exact pair M (x_as_b R a b hb) (fun w1 M => m_as_b M a b hb) J
  | true =>
    simp only [Bool.and_eq_true] at hb
    obtain ⟨h1, h2⟩ := hb
    obtain ⟨k, hk, rfl⟩ := inN_t (by omega) h1
    obtain ⟨j, hj, rfl⟩ := inN_t (by omega) h2
    rcases I.2.2 k hk with hs | ⟨i, hi, hs⟩
    · exact pair M (x_as_m R k j hk hj hs) (fun w1 M => m_as_m M k j hk hj hs) J
    · by_cases hz : asI (fld s i 0) (nI j) = true
      · exact pair M (q_imp (x_as_k R I k j i hk hj hi hs) (fun v w1 q => Eq.mp (if_pos hz) q)) (fun w1 M => q_imp (m_as_k M k j i hk hj hi hs) (fun v w2 q => Eq.mp (if_pos hz) q)) J
      · exact pair M (q_imp (x_as_k R I k j i hk hj hi hs) (fun v w1 q => Eq.mp (if_neg hz) q)) (fun w1 M => q_imp (m_as_k M k j i hk hj hi hs) (fun v w2 q => Eq.mp (if_neg hz) q)) J
set_option maxRecDepth 100000 in
set_option maxHeartbeats 4000000 in
theorem p_image (h : LW w) : PQ X kX5_image kX6_image [.ref 0] [.ref 54] w := by
  obtain ⟨s, n, st, ks, kp, tp, tn, bo, so, nu, R, M, J⟩ := h
  have hn : n ≤ 8 := M.n8
  have I := J.1
  have hl : s.length = 90 := R.2.1.2.2.2.2.2.1
  exact pair M (x_image R) (fun w1 M => m_image M) ⟨I, fun _ => ⟨n, R.2.1.2.2.2.2.2.2.1, hn, I⟩, J.2.2⟩
set_option maxRecDepth 100000 in
set_option maxHeartbeats 4000000 in
theorem p_undo (h : LW w) : PQ X kX5_undo kX6_undo [.ref 0] [.ref 54] w := by
  obtain ⟨s, n, st, ks, kp, tp, tn, bo, so, nu, R, M, J⟩ := h
  have hn : n ≤ 8 := M.n8
  have I := J.1
  have hl : s.length = 90 := R.2.1.2.2.2.2.2.1
  cases kp with
  | false => exact pair M (x_undo_n R rfl) (fun w1 M => m_undo_n M rfl) J
  | true =>
    obtain ⟨m, h0, hm, Ik⟩ := J.2.1 rfl
    exact pair M (x_undo_k R m rfl h0 hm) (fun w1 M => m_undo M m rfl h0 hm) ⟨Ik, fun _ => ⟨m, h0, hm, Ik⟩, J.2.2⟩
set_option maxRecDepth 100000 in
set_option maxHeartbeats 4000000 in
theorem p_tear (h : LW w) : PQ X kX5_tear kX6_tear [.ref 0] [.ref 54] w := by
  obtain ⟨s, n, st, ks, kp, tp, tn, bo, so, nu, R, M, J⟩ := h
  have hn : n ≤ 8 := M.n8
  have I := J.1
  have hl : s.length = 90 := R.2.1.2.2.2.2.2.1
  exact pair M (x_tear_k R) (fun w1 M => m_tear_k M) ⟨I, fun q => (by cases q), J.2.2⟩
set_option maxRecDepth 100000 in
set_option maxHeartbeats 4000000 in
theorem p_count (a : Int32) (h : LW w) : PQ X kX5_count kX6_count [.ref 0, .int a] [.ref 54, .int a] w := by
  obtain ⟨s, n, st, ks, kp, tp, tn, bo, so, nu, R, M, J⟩ := h
  have hn : n ≤ 8 := M.n8
  have I := J.1
  have hl : s.length = 90 := R.2.1.2.2.2.2.2.1
  cases hb : (inN a 7) with
  | false =>
    exact pair M (x_count_b R a hb) (fun w1 M => m_count_b M a hb) J
  | true =>
    have h1 := hb
    obtain ⟨j, hj, rfl⟩ := inN_t (by omega) h1
    exact pair M (x_count_k R j hj) (fun w1 M => m_count_k M I j hj) J
set_option maxRecDepth 100000 in
set_option maxHeartbeats 4000000 in
theorem p_status (a : Int32) (h : LW w) : PQ X kX5_status kX6_status [.ref 0, .int a] [.ref 54, .int a] w := by
  obtain ⟨s, n, st, ks, kp, tp, tn, bo, so, nu, R, M, J⟩ := h
  have hn : n ≤ 8 := M.n8
  have I := J.1
  have hl : s.length = 90 := R.2.1.2.2.2.2.2.1
  cases hb : (decide (-1 ≤ a.toInt ∧ a.toInt ≤ 6)) with
  | false => exact pair M (x_status_b R a hb) (fun w1 M => m_status_b M a hb) J
  | true =>
    rw [decide_eq_true_eq] at hb
    rcases (show a.toInt = -1 ∨ 0 ≤ a.toInt by omega) with q | q
    · have e : a = -1 := Int32.toInt_inj.mp q
      subst e
      exact pair M (x_status_m R) (fun w1 M => m_status_k M (-1) hb) J
    · obtain ⟨m, -, hm, rfl⟩ := in_rng (x := a) (lo := 0) (hi := 6) (by omega) (by decide)
      exact pair M (x_status_n R m (by omega)) (fun w1 M => m_status_k M (nI m) hb) J
set_option maxRecDepth 100000 in
set_option maxHeartbeats 4000000 in
theorem p_shift (h : LW w) : PQ X kX5_shift kX6_shift [.ref 0] [.ref 54] w := by
  obtain ⟨s, n, st, ks, kp, tp, tn, bo, so, nu, R, M, J⟩ := h
  have hn : n ≤ 8 := M.n8
  have I := J.1
  have hl : s.length = 90 := R.2.1.2.2.2.2.2.1
  exact pair M (x_shift_k R I) (fun w1 M => m_shift_k M I) ⟨shift_SI I hl hn n (Nat.le_refl _), J.2⟩
set_option maxRecDepth 100000 in
set_option maxHeartbeats 4000000 in
theorem p_gossip (a : Int32) (h : LW w) : PQ X kX5_gossip kX6_gossip [.ref 0, .int a] [.ref 54, .int a] w := by
  obtain ⟨s, n, st, ks, kp, tp, tn, bo, so, nu, R, M, J⟩ := h
  have hn : n ≤ 8 := M.n8
  have I := J.1
  have hl : s.length = 90 := R.2.1.2.2.2.2.2.1
  cases hb : (in12 a) with
  | false => exact pair M (x_gossip_b R a hb) (fun w1 M => m_gossip_b M a hb) J
  | true =>
    unfold in12 at hb
    rw [decide_eq_true_eq] at hb
    obtain ⟨m, h1, h4, rfl⟩ := in_rng (x := a) (lo := 1) (hi := 12) hb (by decide)
    rcases Nat.eq_zero_or_pos n with h0 | h0
    · exact pair M (x_gossip_z R m h1 h4 h0) (fun w1 M => m_gossip_z M m h1 h4 h0) J
    · exact pair M (x_gossip_k R I m h1 h4 h0) (fun w1 M => m_gossip_k M I m h1 h4 h0) ⟨gos_SI I hl hn h0 m, J.2⟩
set_option maxRecDepth 100000 in
set_option maxHeartbeats 4000000 in
theorem p_feed (a b : Int32) (h : LW w) : PQ X kX5_feed kX6_feed [.ref 0, .int a, .int b] [.ref 54, .int a, .int b] w := by
  obtain ⟨s, n, st, ks, kp, tp, tn, bo, so, nu, R, M, J⟩ := h
  have hn : n ≤ 8 := M.n8
  have I := J.1
  have hl : s.length = 90 := R.2.1.2.2.2.2.2.1
  cases hb : (in14 b) with
  | false => exact pair M (x_feed_b R a b hb) (fun w1 M => m_feed_b M a b hb) J
  | true =>
    unfold in14 at hb
    rw [decide_eq_true_eq] at hb
    obtain ⟨m, h1, h4, rfl⟩ := in_rng (x := b) (lo := 1) (hi := 4) hb (by decide)
    rcases Nat.lt_or_ge 120 (tn + m) with h0 | h0
    · exact pair M (x_feed_f R a m h1 h4 h0) (fun w1 M => m_feed_f M a m h1 h4 h0) J
    · exact pair M (x_feed_k R a m h1 h4 h0) (fun w1 M => m_feed_k M a m h1 h4 h0) J
set_option maxRecDepth 100000 in
set_option maxHeartbeats 4000000 in
theorem p_wipe (h : LW w) : PQ X kX5_wipe kX6_wipe [.ref 0] [.ref 54] w := by
  obtain ⟨s, n, st, ks, kp, tp, tn, bo, so, nu, R, M, J⟩ := h
  have hn : n ≤ 8 := M.n8
  have I := J.1
  have hl : s.length = 90 := R.2.1.2.2.2.2.2.1
  exact pair M (x_wipe_k R) (fun w1 M => m_wipe_k M) J
set_option maxRecDepth 100000 in
set_option maxHeartbeats 4000000 in
theorem p_text (h : LW w) : PQ X kX5_text kX6_text [.ref 0] [.ref 54] w := by
  obtain ⟨s, n, st, ks, kp, tp, tn, bo, so, nu, R, M, J⟩ := h
  have hn : n ≤ 8 := M.n8
  have I := J.1
  have hl : s.length = 90 := R.2.1.2.2.2.2.2.1
  have L := rdAll_SL (tp := tp) (tn := tn) 121 1 0 s n ⟨I, hl, hn⟩
  cases hok : (rdAll tp tn 121 1 0 s n).ok with
  | false => exact pair M (x_text_b R _ rfl hok) (fun w1 M => q_imp (m_text M) (fun v w2 q => q.2 hok)) J
  | true => exact pair M (x_text_k R _ rfl hok) (fun w1 M => q_imp (m_text M) (fun v w2 q => q.1 hok)) ⟨L.1, J.2⟩
set_option maxRecDepth 100000 in
set_option maxHeartbeats 4000000 in
theorem p_sheet (a b c : Int32) (h : LW w) : PQ X kX5_sheet kX6_sheet [.ref 0, .int a, .int b, .int c] [.ref 54, .int a, .int b, .int c] w := by
  obtain ⟨s, n, st, ks, kp, tp, tn, bo, so, nu, R, M, J⟩ := h
  have hn : n ≤ 8 := M.n8
  have I := J.1
  have hl : s.length = 90 := R.2.1.2.2.2.2.2.1
  cases hb : (inN a 4 && bitOK b) with
  | false => exact pair M (x_sheet_b R a b c hb) (fun w1 M => m_sheet_b M a b c hb) J
  | true =>
    rw [Bool.and_eq_true] at hb
    obtain ⟨h1, h2⟩ := hb
    obtain ⟨k, hk, rfl⟩ := inN_t (by omega) h1
    rcases (show c < 0 ∨ 40 < c ∨ ∃ m, m ≤ 40 ∧ c = nI m by
      by_cases q1 : c < 0
      · exact Or.inl q1
      · by_cases q2 : 40 < c
        · exact Or.inr (Or.inl q2)
        · rw [lt_iff] at q1 q2
          have q1 : ¬ c.toInt < 0 := q1
          have q2 : ¬ (40 : Int) < c.toInt := q2
          obtain ⟨m, -, hm, e⟩ := in_rng (x := c) (lo := 0) (hi := 40) (by omega) (by decide)
          exact Or.inr (Or.inr ⟨m, hm, e⟩)) with hc | hc | ⟨m, hm, rfl⟩
    · exact pair M (x_sheet_s R k b c hk h2 hc) (fun w1 M => m_sheet_s M k b c hk h2 hc) J
    · exact pair M (x_sheet_m R k b c hk h2 hc) (fun w1 M => m_sheet_m M k b c hk h2 hc) J
    · refine pair M (x_sheet_k R k b m hk h2 hm) (fun w1 M => m_sheet_k M k m b hk h2 hm) ⟨I, J.2.1, fun q hq => ?_⟩
      have lb : bo.length = 4 := R.2.2.2.2.2.2.1.2.2.2.1
      have ls : so.length = 4 := R.2.2.2.2.2.2.1.2.2.2.2.1
      rw [gD_set _ _ _ _ (by omega), gD_set _ _ _ _ (by omega)]
      by_cases e : q = k
      · rw [if_pos e, if_pos e]
        refine ⟨h2, ?_⟩
        split
        · exact ⟨0, by decide, rfl⟩
        · exact ⟨m, hm, rfl⟩
      · rw [if_neg e, if_neg e]
        exact J.2.2 q hq
set_option maxRecDepth 100000 in
set_option maxHeartbeats 4000000 in
theorem p_write (a b c : Int32) (h : LW w) : PQ X kX5_write kX6_write [.ref 0, .int a, .int b, .int c] [.ref 54, .int a, .int b, .int c] w := by
  obtain ⟨s, n, st, ks, kp, tp, tn, bo, so, nu, R, M, J⟩ := h
  have hn : n ≤ 8 := M.n8
  have I := J.1
  have hl : s.length = 90 := R.2.1.2.2.2.2.2.1
  cases hb : (inN a 4) with
  | false => exact pair M (x_write_b R a b c hb) (fun w1 M => m_write_b M a b c hb) J
  | true =>
    obtain ⟨k, hk, rfl⟩ := inN_t (by omega) hb
    by_cases h0 : bo.getD k 0 = 0
    · exact pair M (x_write_m R k b c hk h0) (fun w1 M => m_write_m M k b c hk h0) J
    · obtain ⟨-, z, hz40, hz⟩ := J.2.2 k hk
      cases hi : (inN b z) with
      | false => exact pair M (x_write_i R k z hk h0 hz hz40 b c hi) (fun w1 M => m_write_i M k z hk h0 hz hz40 b c hi) J
      | true =>
        obtain ⟨i, hi2, rfl⟩ := inN_t (by omega) hi
        exact pair M (x_write_k R k z hk h0 hz hz40 i c hi2) (fun w1 M => m_write_k M k z hk h0 hz hz40 i c hi2) J
set_option maxRecDepth 100000 in
set_option maxHeartbeats 4000000 in
theorem p_load (a : Int32) (h : LW w) : PQ X kX5_load kX6_load [.ref 0, .int a] [.ref 54, .int a] w := by
  obtain ⟨s, n, st, ks, kp, tp, tn, bo, so, nu, R, M, J⟩ := h
  have hn : n ≤ 8 := M.n8
  have I := J.1
  have hl : s.length = 90 := R.2.1.2.2.2.2.2.1
  cases hb : (inN a 4) with
  | false => exact pair M (x_load_b R a hb) (fun w1 M => m_load_b M a hb) J
  | true =>
    obtain ⟨k, hk, rfl⟩ := inN_t (by omega) hb
    by_cases h0 : bo.getD k 0 = 0
    · exact pair M (x_load_m R k hk h0) (fun w1 M => m_load_m M k hk h0) J
    · obtain ⟨-, z, hz40, hz⟩ := J.2.2 k hk
      exact pair M (x_load_k R k z hk h0 hz hz40) (fun w1 M => m_load_k M k z hk h0 hz hz40) ⟨load_SI I hl hn _ (Nat.min_le_right ..), J.2⟩
set_option maxRecDepth 100000 in
set_option maxHeartbeats 4000000 in
theorem p_judge (a b c : Int32) (h : LW w) : PQ X kX5_judge kX6_judge [.ref 0, .int a, .int b, .int c] [.ref 54, .int a, .int b, .int c] w := by
  obtain ⟨s, n, st, ks, kp, tp, tn, bo, so, nu, R, M, J⟩ := h
  have hn : n ≤ 8 := M.n8
  have I := J.1
  have hl : s.length = 90 := R.2.1.2.2.2.2.2.1
  cases hb : (inN a 4) with
  | false => exact pair M (x_judge_b R a b c hb) (fun w1 M => m_judge_b M a b c hb) J
  | true =>
    obtain ⟨k, hk, rfl⟩ := inN_t (by omega) hb
    by_cases h0 : bo.getD k 0 = 0
    · exact pair M (x_judge_m R k b c hk h0) (fun w1 M => m_judge_m M k b c hk h0) J
    · obtain ⟨-, z, hz40, hz⟩ := J.2.2 k hk
      cases hi : (inN b n && inN c 24) with
      | false => exact pair M (x_judge_a R k z hk h0 hz hz40 b c hi) (fun w1 M => m_judge_a M k z hk h0 hz hz40 b c hi) J
      | true =>
        rw [Bool.and_eq_true] at hi
        obtain ⟨f, hf, rfl⟩ := inN_t (by omega) hi.1
        obtain ⟨q, hq, rfl⟩ := inN_t (by omega) hi.2
        exact pair M (x_judge_k R k z hk h0 hz hz40 I f q hf hq _ rfl) (fun w1 M => m_judge_k M k z hk h0 hz hz40 I f q hf hq _ rfl) J
set_option maxRecDepth 100000 in
set_option maxHeartbeats 4000000 in
theorem p_copy (a b c d e : Int32) (h : LW w) : PQ X kX5_copy kX6_copy [.ref 0, .int a, .int b, .int c, .int d, .int e] [.ref 54, .int a, .int b, .int c, .int d, .int e] w := by
  obtain ⟨s, n, st, ks, kp, tp, tn, bo, so, nu, R, M, J⟩ := h
  have hn : n ≤ 8 := M.n8
  have I := J.1
  have hl : s.length = 90 := R.2.1.2.2.2.2.2.1
  cases hb : (inN a 4 && inN c 4) with
  | false => exact pair M (x_copy_b R a b c d e hb) (fun w1 M => m_copy_b M a b c d e hb) J
  | true =>
    rw [Bool.and_eq_true] at hb
    obtain ⟨k, hk, rfl⟩ := inN_t (by omega) hb.1
    obtain ⟨t, ht, rfl⟩ := inN_t (by omega) hb.2
    by_cases h0 : bo.getD k 0 = 0
    · exact pair M (x_copy_m R k t b d e hk ht (Or.inl h0)) (fun w1 M => m_copy_m M k t b d e hk ht (Or.inl h0)) J
    by_cases h1 : bo.getD t 0 = 0
    · exact pair M (x_copy_m R k t b d e hk ht (Or.inr h1)) (fun w1 M => m_copy_m M k t b d e hk ht (Or.inr h1)) J
    by_cases he : bo.getD k 0 = bo.getD t 0
    · obtain ⟨-, z, hz40, hz⟩ := J.2.2 k hk
      obtain ⟨-, y, hy40, hy⟩ := J.2.2 t ht
      cases hr : (rngB z b e && rngB y d e) with
      | false => exact pair M (x_copy_r R k t z y hk ht hz hz40 hy hy40 b d e h0 h1 he hr) (fun w1 M => m_copy_r M k t z y hk ht hz hz40 hy hy40 b d e h0 h1 he hr) J
      | true =>
        rw [Bool.and_eq_true] at hr
        obtain ⟨b', m, rfl, rfl, hbm⟩ := rng_t hz40 hr.1
        obtain ⟨d', m2, rfl, e2, hdm⟩ := rng_t hy40 hr.2
        have : m = m2 := (nI_eq (by omega) (by omega)).mp e2
        subst this
        exact pair M (x_copy_k R k t z y hk ht hz hz40 hy hy40 b' d' m h0 h1 he hbm hdm) (fun w1 M => m_copy_k M k t z y hk ht hz hz40 hy hy40 b' d' m h0 h1 he hbm hdm) J
    · exact pair M (x_copy_w R k t b d e hk ht h0 h1 he) (fun w1 M => m_copy_w M k t b d e hk ht h0 h1 he) J
end PC
