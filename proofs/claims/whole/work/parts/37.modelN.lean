/-! THE REFERENCE: judge -/
/-- where a reader may go on after the rooms x 0 .. x (i - 1) -/
def mayB (s : List Int32) (n f : Nat) (c : Int32) (x : Nat → Int32) : Nat → Nat → Bool
  | 0, r => gB n r && opB s n f c r
  | i + 1, r => adjB s n (x i).toNatClampNeg r && opB s n f c r
def stepB (s : List Int32) (n f : Nat) (c : Int32) (x : Nat → Int32) (i : Nat) : Bool := inN (x i) (2 * n) && mayB s n f c x i (x i).toNatClampNeg
/-- how many of the first m are right from the first on -/
def leadN (p : Nat → Bool) : Nat → Nat
  | 0 => 0
  | m + 1 => if leadN p m = m ∧ p m = true then m + 1 else leadN p m
theorem leadN_le (p : Nat → Bool) : ∀ m, leadN p m ≤ m
  | 0 => Nat.le_refl _
  | m + 1 => by
    rw [leadN]
    have := leadN_le p m
    split <;> omega
theorem leadN_stop {p : Nat → Bool} {i : Nat} (h : leadN p i = i) (hf : p i = false) : ∀ d, leadN p (i + d) = i
  | 0 => h
  | d + 1 => by
    show leadN p (i + d + 1) = i
    rw [leadN, leadN_stop h hf d]
    split
    · rename_i q
      have : d = 0 := by omega
      subst this
      rw [show i + 0 = i from rfl, hf] at q
      exact absurd q.2 (by decide)
    · rfl
def lastR (x : Nat → Int32) (i : Nat) : Int32 := if i = 0 then -1 else x (i - 1)
def judI (s : List Int32) (f z R : Nat) (x : Nat → Int32) : Int32 := if R = z ∧ lastR x R = nI (homeN s f) then 0 else nI (1 + R)
section MN
variable {X : List Int32} {w : ab_W} {s : List Int32} {n : Nat} {st ks : List Int32} {kp : Bool} {tp : List Int32} {tn : Nat} {bo so nu : List Int32}
set_option maxRecDepth 100000 in
set_option maxHeartbeats 4000000 in
theorem m_judge_a (R : MW w s n st ks kp tp tn bo so nu) (k z : Nat) (hk : k < 4) (hb : ¬ bo.getD k 0 = 0) (hz : so.getD k 0 = nI z) (hz40 : z ≤ 40) (a b : Int32) (ha : (inN a n && inN b 24) = false) : ab_Q X kX6_judge [.ref 54, .int (nI k), .int a, .int b] w (MP w (-1000001) s n (bump st 0) ks kp tp tn bo so nu) := by
  have M := R.ms
  have R0 := R
  obtain ⟨oth, nz, mv, fr, to, vl, wr, a54, a55, a56, a57, a58, a59, a60, a61, a62, a63, a64, l, h0, hn, ht⟩ := R
  show ab_H X kX6_judge 0 [some (.ref 54), some (.int (nI k)), some (.int a), some (.int b), none, none, none, none, none] [] w _
  iterate 2 refine h_s rfl ?_
  refine hq_v rfl rfl rfl a54 rfl rfl (m_wrong_k R0 k hk hb) (fun v0 w0 q0 => ?_)
  obtain ⟨rfl, rfl⟩ := q0
  refine h_n (st2 := [_]) rfl ?_
  iterate 6 refine h_s rfl ?_
  refine h_cv rfl rfl rfl a54 rfl rfl (m_isAsk M a b) ?_
  refine h_n (st2 := [_]) rfl ?_
  refine hz_ne rfl rfl (fun h25 => absurd h25 (by rw [ha]; decide)) (fun h25 => ?_)
  iterate 2 refine h_s rfl ?_
  refine hq_v rfl rfl rfl a54 rfl rfl (m_finds R0 0 (by omega) _ (by decide)) (fun v1 w1 q1 => ?_)
  obtain ⟨rfl, q2, q3⟩ := q1
  refine h_n (st2 := [_]) rfl ?_
  exact h_ri rfl rfl ⟨rfl, q2, q3⟩
set_option maxRecDepth 100000 in
set_option maxHeartbeats 4000000 in
theorem m_judge_k (R : MW w s n st ks kp tp tn bo so nu) (k z : Nat) (hk : k < 4) (hb : ¬ bo.getD k 0 = 0) (hz : so.getD k 0 = nI z) (hz40 : z ≤ 40) (I : SI s n) (f c : Nat) (hf : f < n) (hc : c < 24) (G : Nat) (hR : leadN (stepB s n f (nI c) (fun i => nu.getD (40 * k + i) 0)) z = G) : ab_Q X kX6_judge [.ref 54, .int (nI k), .int (nI f), .int (nI c)] w (MP w (judI s f z G (fun i => nu.getD (40 * k + i) 0)) s n st ks kp tp tn bo so nu) := by
  have M := R.ms
  have R0 := R
  obtain ⟨oth, nz, mv, fr, to, vl, wr, a54, a55, a56, a57, a58, a59, a60, a61, a62, a63, a64, l, h0, hn, ht⟩ := R
  show ab_H X kX6_judge 0 [some (.ref 54), some (.int (nI k)), some (.int (nI f)), some (.int (nI c)), none, none, none, none, none] [] w _
  iterate 2 refine h_s rfl ?_
  refine hq_v rfl rfl rfl a54 rfl rfl (m_wrong_k R0 k hk hb) (fun v0 w0 q0 => ?_)
  obtain ⟨rfl, rfl⟩ := q0
  refine h_n (st2 := [_]) rfl ?_
  iterate 6 refine h_s rfl ?_
  refine h_cv rfl rfl rfl a54 rfl rfl (m_isAsk1 M ⟨f, by omega, rfl⟩ ⟨c, by omega, rfl⟩) ?_
  refine h_n (st2 := [_]) rfl ?_
  iterate 4 refine h_s rfl ?_
  refine h_cv rfl rfl rfl a54 rfl rfl (m_openRooms M I f (by omega) (nI c)) ?_
  refine h_n (st2 := [_]) rfl ?_
  iterate 2 refine h_s rfl ?_
  refine h_cv rfl rfl rfl a54 rfl rfl (m_grounds M) ?_
  refine h_n (st2 := [_]) rfl ?_
  refine h_s rfl ?_
  refine h_s rfl ?_
  refine h_t (bs_and (by omega)) ?_
  refine h_s rfl ?_
  refine h_k (y := 0) rfl rfl ?_
  refine h_s rfl ?_
  refine h_k (y := (-1)) rfl rfl ?_
  refine h_s rfl ?_
  have hR0 := hR
  refine h_loop0 (z + 1) (fun i ls w1 => w1 = w0 ∧ i ≤ z ∧ leadN (stepB s n f (nI c) (fun i => nu.getD (40 * k + i) 0)) i = i ∧ ls = [some (.ref 54), some (.int (nI k)), some (.int (nI f)), some (.int (nI c)), some (.int 0), some (.int (bs (opB s n f (nI c)) 16)), some (.int (bs (mayB s n f (nI c) (fun i => nu.getD (40 * k + i) 0) i) 16)), some (.int (nI i)), some (.int (lastR (fun i => nu.getD (40 * k + i) 0) i))]) ⟨rfl, by omega, rfl, rfl⟩ (fun i ls w1 hi hJ ih => ?_) (fun ls w1 hJ => absurd hJ.2.1 (by omega))
  obtain ⟨rfl, hiz, hle, rfl⟩ := hJ
  have hstop : stepB s n f (nI c) (fun i => nu.getD (40 * k + i) 0) i = false → i < z → G = i := fun h h1 => by
    rw [← hR, show z = i + (z - i) by omega]
    exact leadN_stop hle h _
  by_cases hzi : i = z
  · have hRi : G = i := by rw [← hR, ← hzi]; exact hle
    have hh := homeN_lt I hn hf
    iterate 2 refine h_s rfl ?_
    refine h_gf rfl rfl rfl a54 rfl ?_
    refine h_s rfl ?_
    refine h_ia k rfl a62 (by omega) rfl (by omega) ?_
    refine h_t hz ?_
    refine h2_ge rfl rfl (fun h66 => ?_) (fun h66 => absurd (nI_le (by omega) (by omega)) h66)
    iterate 2 refine h_s rfl ?_
    refine h_gf rfl rfl rfl a54 rfl ?_
    refine h_s rfl ?_
    refine h_ia k rfl a62 (by omega) rfl (by omega) ?_
    refine h_t hz ?_
    refine h2_ne rfl rfl (fun h147 => absurd h147 (fun q => q (by rw [hzi]))) (fun h147 => ?_)
    iterate 3 refine h_s rfl ?_
    refine h_cv rfl rfl rfl a54 rfl rfl (m_homeOf M I f hf) ?_
    refine h_n (st2 := [_, _]) rfl ?_
    refine h2_ne rfl rfl (fun h157 => ?_) (fun h157 => ?_)
    · refine h_k (y := 1) rfl rfl ?_
      refine h_s rfl ?_
      refine h_s rfl ?_
      refine h_t (nI_add 1 i) ?_
      exact h_ri rfl (by unfold judI; first | rw [if_pos ⟨by omega, by rw [hRi]; exact h157⟩] | rw [if_neg (fun q => h157 (by rw [← hRi]; exact q.2)), hRi]) (MP.same R0 _)
    · refine h_k (y := 0) rfl rfl ?_
      refine h_s rfl ?_
      exact h_ri rfl (by unfold judI; first | rw [if_pos ⟨by omega, by rw [hRi]; exact h157⟩] | rw [if_neg (fun q => h157 (by rw [← hRi]; exact q.2)), hRi]) (MP.same R0 _)
  · have hx : nu.getD (40 * k + i) 0 = (fun i => nu.getD (40 * k + i) 0) i := rfl
    obtain ⟨x, hx2⟩ : ∃ x, (fun i => nu.getD (40 * k + i) 0) i = x := ⟨_, rfl⟩
    rw [hx2] at hx
    have hsx : stepB s n f (nI c) (fun i => nu.getD (40 * k + i) 0) i = (inN x (2 * n) && mayB s n f (nI c) (fun i => nu.getD (40 * k + i) 0) i x.toNatClampNeg) := by unfold stepB; rw [hx2]
    iterate 2 refine h_s rfl ?_
    refine h_gf rfl rfl rfl a54 rfl ?_
    refine h_s rfl ?_
    refine h_ia k rfl a62 (by omega) rfl (by omega) ?_
    refine h_t hz ?_
    refine h2_ge rfl rfl (fun h66 => absurd h66 (nI_ge (by omega) (by omega))) (fun h66 => ?_)
    iterate 2 refine h_s rfl ?_
    refine h_gf rfl rfl rfl a54 rfl ?_
    refine h_k (y := 40) rfl rfl ?_
    refine h_s rfl ?_
    refine h_s rfl ?_
    refine h_t (pk_mul 40 k) ?_
    refine h_s rfl ?_
    refine h_s rfl ?_
    refine h_t (nI_add (40 * k) i) ?_
    refine h_ia (40 * k + i) rfl a63 (by omega) rfl (by omega) ?_
    refine h_t hx ?_
    refine h_cv rfl rfl rfl a54 rfl rfl (m_isRoom M x) ?_
    refine h_n (st2 := [_]) rfl ?_
    refine hz_eq rfl rfl (fun h85 => ?_) (fun h85 => ?_)
    · iterate 2 refine h_s rfl ?_
      refine h_gf rfl rfl rfl a54 rfl ?_
      refine h_s rfl ?_
      refine h_ia k rfl a62 (by omega) rfl (by omega) ?_
      refine h_t hz ?_
      refine h2_ne rfl rfl (fun h147 => ?_) (fun h147 => absurd h147 (fun q => hzi ((nI_eq (by omega) (by omega)).mp q)))
      refine h_k (y := 1) rfl rfl ?_
      refine h_s rfl ?_
      refine h_s rfl ?_
      refine h_t (nI_add 1 i) ?_
      have hRi : G = i := hstop (by rw [hsx]; first | (rw [h85]; rfl) | (rw [h85, hcl, h105]; rfl)) (by omega)
      exact h_ri rfl (by unfold judI; rw [if_neg (fun q => hzi (by omega)), hRi]) (MP.same R0 _)
    · iterate 2 refine h_s rfl ?_
      refine h_gf rfl rfl rfl a54 rfl ?_
      refine h_k (y := 40) rfl rfl ?_
      refine h_s rfl ?_
      refine h_s rfl ?_
      refine h_t (pk_mul 40 k) ?_
      refine h_s rfl ?_
      refine h_s rfl ?_
      refine h_t (nI_add (40 * k) i) ?_
      refine h_ia (40 * k + i) rfl a63 (by omega) rfl (by omega) ?_
      refine h_t hx ?_
      obtain ⟨r, hr, hxr⟩ := inN_t (by omega) h85
      have hcl : x.toNatClampNeg = r := by rw [hxr]; exact nI_clamp (by omega)
      have hbt : bt (bs (mayB s n f (nI c) (fun i => nu.getD (40 * k + i) 0) i) 16) r = mayB s n f (nI c) (fun i => nu.getD (40 * k + i) 0) i r := by rw [bt_bs _ _ _ (by omega) (by omega), decide_eq_true (by omega), Bool.true_and]
      refine h_c rfl (show ab_M X kX6_has [.int (bs (mayB s n f (nI c) (fun i => nu.getD (40 * k + i) 0) i) 16), .int x] w1 (some (.int (z01 (mayB s n f (nI c) (fun i => nu.getD (40 * k + i) 0) i r)))) w1 by rw [← hbt, hxr]; exact m_has r (by omega)) ?_
      refine h_n (st2 := [_]) rfl ?_
      refine hz_eq rfl rfl (fun h105 => ?_) (fun h105 => ?_)
      · iterate 2 refine h_s rfl ?_
        refine h_gf rfl rfl rfl a54 rfl ?_
        refine h_s rfl ?_
        refine h_ia k rfl a62 (by omega) rfl (by omega) ?_
        refine h_t hz ?_
        refine h2_ne rfl rfl (fun h147 => ?_) (fun h147 => absurd h147 (fun q => hzi ((nI_eq (by omega) (by omega)).mp q)))
        refine h_k (y := 1) rfl rfl ?_
        refine h_s rfl ?_
        refine h_s rfl ?_
        refine h_t (nI_add 1 i) ?_
        have hRi : G = i := hstop (by rw [hsx]; first | (rw [h85]; rfl) | (rw [h85, hcl, h105]; rfl)) (by omega)
        exact h_ri rfl (by unfold judI; rw [if_neg (fun q => hzi (by omega)), hRi]) (MP.same R0 _)
      · refine h_s rfl ?_
        refine h_gf rfl rfl rfl a54 rfl ?_
        refine h_k (y := 40) rfl rfl ?_
        refine h_s rfl ?_
        refine h_s rfl ?_
        refine h_t (pk_mul 40 k) ?_
        refine h_s rfl ?_
        refine h_s rfl ?_
        refine h_t (nI_add (40 * k) i) ?_
        refine h_ia (40 * k + i) rfl a63 (by omega) rfl (by omega) ?_
        refine h_t hx ?_
        iterate 3 refine h_s rfl ?_
        refine h_cv rfl rfl rfl a54 rfl rfl (show ab_M X kX6_joinedTo [.ref 54, .int x] w1 (some (.int (bs (adjB s n r) 16))) w1 by rw [hxr]; exact m_joinedTo M I r hr) ?_
        refine h_n (st2 := [_]) rfl ?_
        refine h_s rfl ?_
        refine h_s rfl ?_
        refine h_t (bs_and (by omega)) ?_
        refine h_s rfl ?_
        refine h_ii rfl rfl rfl ?_
        refine h_s rfl ?_
        refine ih _ _ ⟨rfl, by omega, ?_, ?_⟩
        · rw [leadN, hle, if_pos ⟨rfl, by rw [hsx, h85, hcl, h105]; rfl⟩]
        · rw [show lastR (fun i => nu.getD (40 * k + i) 0) (i + 1) = x from hx2]
          have hm : mayB s n f (nI c) (fun i => nu.getD (40 * k + i) 0) (i + 1) = fun r' => adjB s n r r' && opB s n f (nI c) r' := by
            funext r'
            show (adjB s n ((fun i => nu.getD (40 * k + i) 0) i).toNatClampNeg r' && opB s n f (nI c) r') = _
            rw [hx2, hcl]
          rw [hm]
          rfl
end MN
