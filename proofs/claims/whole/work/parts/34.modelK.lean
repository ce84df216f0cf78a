/-! THE REFERENCE: shift, gossip -/
section RD
variable {X : List Int32} {k pc n : Nat} {ls : List (Option Value)} {st : List Value} {w w2 : ab_W} {v : Option Value} {Q : Option Value → ab_W → Prop}
theorem ab_rem {x y z : Int32} (h : ab_lk (it_ (ab_mi k)) pc = some (.irem, n)) (hy : ¬ y = 0) (e : x - x / y * y = z) (t : ab_G X k (pc + 1) ls (.int z :: st) w v w2) : ab_G X k pc ls (.int y :: .int x :: st) w v w2 := by
  subst e
  refine ab_s ?_ t
  rw [ab_stp_of h]
  show (match decide (y = 0) with | true => none | false => ab_nx (pc + 1) ls (.int (x - x / y * y) :: st) w) = _
  rw [decide_eq_false hy]
  rfl
theorem h_rem {x y z : Int32} (h : ab_lk (it_ (ab_mi k)) pc = some (.irem, n)) (hy : ¬ y = 0) (e : x - x / y * y = z) (t : ab_H X k (pc + 1) ls (.int z :: st) w Q) : ab_H X k pc ls (.int y :: .int x :: st) w Q := by
  obtain ⟨v, w2, h1, h2⟩ := t
  exact ⟨v, w2, ab_rem h hy e h1, h2⟩
theorem ab_div {x y z : Int32} (h : ab_lk (it_ (ab_mi k)) pc = some (.idiv, n)) (hy : ¬ y = 0) (e : x / y = z) (t : ab_G X k (pc + 1) ls (.int z :: st) w v w2) : ab_G X k pc ls (.int y :: .int x :: st) w v w2 := by
  subst e
  refine ab_s ?_ t
  rw [ab_stp_of h]
  show (match decide (y = 0) with | true => none | false => ab_nx (pc + 1) ls (.int (x / y) :: st) w) = _
  rw [decide_eq_false hy]
  rfl
theorem h_div {x y z : Int32} (h : ab_lk (it_ (ab_mi k)) pc = some (.idiv, n)) (hy : ¬ y = 0) (e : x / y = z) (t : ab_H X k (pc + 1) ls (.int z :: st) w Q) : ab_H X k pc ls (.int y :: .int x :: st) w Q := by
  obtain ⟨v, w2, h1, h2⟩ := t
  exact ⟨v, w2, ab_div h hy e h1, h2⟩
end RD
def shiftS (s : List Int32) (n : Nat) : Nat → List Int32
  | 0 => s
  | i + 1 => (shiftS s n i).set (2 + 8 * i + 7) (nI ((bedN s i + 1) % n))
theorem shift_l (s : List Int32) (n : Nat) : ∀ i, (shiftS s n i).length = s.length
  | 0 => rfl
  | i + 1 => by rw [shiftS, List.length_set]; exact shift_l s n i
theorem shift_D (s : List Int32) (n : Nat) {j : Nat} : ∀ i, (∀ h, h < i → j ≠ 2 + 8 * h + 7) → (shiftS s n i).getD j 0 = s.getD j 0
  | 0, _ => rfl
  | i + 1, h => by
    rw [shiftS, gD_ne (fun e => h i (by omega) e.symm)]
    exact shift_D s n i (fun h' hh' => h h' (by omega))
theorem shift_SI {s : List Int32} {n : Nat} (I : SI s n) (hl : s.length = 90) (hn : n ≤ 8) : ∀ i, i ≤ n → SI (shiftS s n i) n
  | 0, _ => I
  | i + 1, h => SI_bed (shift_SI I hl hn i (by omega)) ((shift_l s n i).trans hl) (by omega) ⟨_, Nat.mod_lt _ (by omega), rfl⟩
section MK
variable {X : List Int32} {w : ab_W} {s : List Int32} {n : Nat} {st ks : List Int32} {kp : Bool} {tp : List Int32} {tn : Nat} {bo so nu : List Int32}
set_option maxRecDepth 100000 in
set_option maxHeartbeats 4000000 in
theorem m_shift_k (R : MW w s n st ks kp tp tn bo so nu) (I : SI s n) : ab_Q X kX6_shift [.ref 54] w (MP w (nI (offN (shiftS s n n) n 20)) (shiftS s n n) n st ks kp tp tn bo so nu) := by
  have M := R.ms
  have R0 := R
  obtain ⟨oth, nz, mv, fr, to, vl, wr, a54, a55, a56, a57, a58, a59, a60, a61, a62, a63, a64, l, h0, hn, ht⟩ := R
  show ab_H X kX6_shift 0 [some (.ref 54), none] [] w _
  refine h_k (y := 0) rfl rfl ?_
  refine h_s rfl ?_
  refine h_loop0 n (fun i ls w1 => (∀ j, j ≠ 55 → w1[j]? = w[j]?) ∧ w1[55]? = some (.inr (shiftS s n i)) ∧ ls = [some (.ref 54), some (.int (nI i))]) ⟨fun _ _ => rfl, a55, rfl⟩ (fun i ls w1 hi hJ ih => ?_) (fun ls w1 hJ => ?_)
  · obtain ⟨F, b55, rfl⟩ := hJ
    have b54 := (F 54 (by decide)).trans a54
    have gl : (shiftS s n i).length = 90 := (shift_l ..).trans l.1
    have g0 : (shiftS s n i).getD 0 0 = nI n := (shift_D _ _ _ (fun h _ => by omega)).trans h0
    have M1 := (R0.s55 b55 gl g0 hn F).ms
    obtain ⟨hb1, hb2⟩ := bedN_e I hn hi
    have g7 : fld (shiftS s n i) i 7 = nI (bedN s i) := (shift_D _ _ _ (fun h hh => by omega)).trans hb1
    iterate 2 refine h_s rfl ?_
    refine h_gf rfl rfl rfl b54 rfl ?_
    refine h_k (y := 0) rfl rfl ?_
    refine h_ia 0 rfl b55 (by omega) rfl (by omega) ?_
    refine h_t g0 ?_
    refine h2_ge rfl rfl (fun h9 => absurd h9 (nI_ge hi (by omega))) (fun h9 => ?_)
    refine h_s rfl ?_
    refine h_gf rfl rfl rfl b54 rfl ?_
    refine h_s rfl ?_
    refine h_k (y := 7) rfl rfl ?_
    refine h_c rfl (m_at i 7 rfl rfl) ?_
    refine h_n (st2 := [_, _]) rfl ?_
    iterate 2 refine h_s rfl ?_
    refine h_k (y := 7) rfl rfl ?_
    refine h_cv rfl rfl rfl b54 rfl rfl (m_its M1 i 7 (by omega) (by omega) rfl rfl) ?_
    refine h_t g7 ?_
    refine h_n (st2 := [_, _, _]) rfl ?_
    refine h_k (y := 1) rfl rfl ?_
    refine h_s rfl ?_
    refine h_t (nI_1 (bedN s i)) ?_
    refine h_s rfl ?_
    refine h_gf rfl rfl rfl b54 rfl ?_
    refine h_k (y := 0) rfl rfl ?_
    refine h_ia 0 rfl b55 (by omega) rfl (by omega) ?_
    refine h_t g0 ?_
    refine h_rem rfl (nI_ne0 (by omega) (by omega)) (pk_rem (a := bedN s i + 1) (d := n) (by omega) (by omega) (by omega)) ?_
    refine h_is (2 + 8 * i + 7) rfl b55 (by omega) rfl (by omega) (fun w2 e2 f2 => ?_)
    refine h_ii rfl rfl rfl ?_
    refine h_s rfl ?_
    exact ih _ _ ⟨fun j hj => (f2 j hj).trans (F j hj), e2, rfl⟩
  · obtain ⟨F, b55, rfl⟩ := hJ
    have b54 := (F 54 (by decide)).trans a54
    have gl : (shiftS s n n).length = 90 := (shift_l ..).trans l.1
    have g0 : (shiftS s n n).getD 0 0 = nI n := (shift_D _ _ _ (fun h _ => by omega)).trans h0
    have R1 := R0.s55 b55 gl g0 hn F
    have I1 := shift_SI I l.1 hn n (Nat.le_refl _)
    iterate 2 refine h_s rfl ?_
    refine h_gf rfl rfl rfl b54 rfl ?_
    refine h_k (y := 0) rfl rfl ?_
    refine h_ia 0 rfl b55 (by omega) rfl (by omega) ?_
    refine h_t g0 ?_
    refine h2_ge rfl rfl (fun h9 => ?_) (fun h9 => absurd (nI_le (Nat.le_refl _) (by omega)) h9)
    refine h_s rfl ?_
    refine h_k (y := 20) rfl rfl ?_
    refine h_cv rfl rfl rfl b54 rfl rfl (m_offSet R1.ms I1 20) ?_
    refine h_n (st2 := [_]) rfl ?_
    refine h_c rfl (m_onesO (shiftS s n n) 20 hn) ?_
    refine h_n (st2 := [_]) rfl ?_
    exact h_ri rfl rfl ⟨rfl, R1, fun i hi => F i (by omega)⟩
set_option maxRecDepth 100000 in
set_option maxHeartbeats 4000000 in
theorem m_wipe_k (R : MW w s n st ks kp tp tn bo so nu)  : ab_Q X kX6_wipe [.ref 54] w (MP w (nI tn) s n st ks kp tp 0 bo so nu) := by
  have M := R.ms
  have R0 := R
  obtain ⟨oth, nz, mv, fr, to, vl, wr, a54, a55, a56, a57, a58, a59, a60, a61, a62, a63, a64, l, h0, hn, ht⟩ := R
  show ab_H X kX6_wipe 0 [some (.ref 54), none] [] w _
  refine h_s rfl ?_
  refine h_gf rfl rfl rfl a54 rfl ?_
  iterate 2 refine h_s rfl ?_
  refine h_k (y := 0) rfl rfl ?_
  refine h_pf rfl rfl a54 rfl (fun w3 e3 f3 => ?_)
  refine h_s rfl ?_
  exact h_ri rfl rfl ⟨rfl, R0.o54 kp 0 fr to vl wr (by omega) e3 f3, fun i hi => f3 i (by omega)⟩
end MK
