/-! THE REFERENCE: leaves given for a try -/
/-- the leaves of the first i houses, if those of q also had f -/
def giveS (s : List Int32) (q : Nat → Bool) (f : Nat) : Nat → List Int32
  | 0 => s
  | i + 1 => (giveS s q f i).set (2 + 8 * i + 2) (fld s i 2 ||| (if q i then (1 : Int32) <<< (nI f &&& 31) else 0))
theorem give_l (s : List Int32) (q : Nat → Bool) (f : Nat) : ∀ i, (giveS s q f i).length = s.length
  | 0 => rfl
  | i + 1 => by rw [giveS, List.length_set]; exact give_l s q f i
theorem give_D (s : List Int32) (q : Nat → Bool) (f : Nat) {j : Nat} : ∀ i, (∀ h, h < i → j ≠ 2 + 8 * h + 2) → (giveS s q f i).getD j 0 = s.getD j 0
  | 0, _ => rfl
  | i + 1, h => by
    rw [giveS, gD_ne (fun e => h i (by omega) e.symm)]
    exact give_D s q f i (fun h' hh' => h h' (by omega))
theorem give_inn {s : List Int32} {n f i : Nat} (I : SI s n) (hf : f < 8) (hi : i < n) (b : Bool) : inn (fld s i 2 ||| (if b then (1 : Int32) <<< (nI f &&& 31) else 0)) 8 := by
  intro j h1 h2
  rw [b_or, (I.1 i hi).2.2.1 j h1 h2, Bool.false_or]
  cases b with
  | true => rw [if_pos rfl, b_sh (by omega) h2, decide_eq_false (by omega)]
  | false => rw [if_neg (by decide), b_0]
theorem give_SI {s : List Int32} {n f : Nat} (I : SI s n) (hl : s.length = 90) (hn : n ≤ 8) (hf : f < 8) (q : Nat → Bool) : ∀ i, i ≤ n → SI (giveS s q f i) n
  | 0, _ => I
  | i + 1, h => SI_leave (give_SI I hl hn hf q i (by omega)) ((give_l s q f i).trans hl) (by omega) (give_inn I hf (by omega) (q i))
section MH
variable {X : List Int32} {w : ab_W} {s : List Int32} {n : Nat} {st ks : List Int32} {kp : Bool} {tp : List Int32} {tn : Nat} {bo so nu : List Int32}
set_option maxRecDepth 100000 in
set_option maxHeartbeats 4000000 in
theorem m_isOffWith (R : MW w s n st ks kp tp tn bo so nu) (I : SI s n) (ho : w[57]? = some (.inr s)) (f : Nat) (hf : f < n) (c x : Int32) : ab_Q X kX6_isOffWith [.ref 54, .int (nI f), .int c, .int x] w (fun v w1 => v = some (.int (z01 (offB (giveS s (bt x) f n) n f c))) ∧ MW w1 s n st ks kp tp tn bo so nu ∧ w1[55]? = some (.inr s) ∧ ∀ i, i ≠ 55 → w1[i]? = w[i]?) := by
  have M := R.ms
  have R0 := R
  obtain ⟨oth, nz, mv, fr, to, vl, wr, a54, a55, a56, a57, a58, a59, a60, a61, a62, a63, a64, l, h0, hn, ht⟩ := R
  show ab_H X kX6_isOffWith 0 [some (.ref 54), some (.int (nI f)), some (.int c), some (.int x), none, none] [] w _
  refine h_k (y := 0) rfl rfl ?_
  refine h_s rfl ?_
  refine h_loop0 n (fun i ls w1 => (∀ j, j ≠ 55 → w1[j]? = w[j]?) ∧ w1[55]? = some (.inr (giveS s (bt x) f i)) ∧ ls = [some (.ref 54), some (.int (nI f)), some (.int c), some (.int x), some (.int (nI i)), none]) ⟨fun _ _ => rfl, a55, rfl⟩ (fun i ls w1 hi hJ ih => ?_) (fun ls w1 hJ => ?_)
  · obtain ⟨F, b55, rfl⟩ := hJ
    have b54 := (F 54 (by decide)).trans a54
    have gl : (giveS s (bt x) f i).length = 90 := (give_l ..).trans l.1
    have g0 : (giveS s (bt x) f i).getD 0 0 = nI n := (give_D _ _ _ _ (fun h _ => by omega)).trans h0
    have g2 : (giveS s (bt x) f i).getD (2 + 8 * i + 2) 0 = fld s i 2 := give_D _ _ _ _ (fun h hh => by omega)
    iterate 2 refine h_s rfl ?_
    refine h_gf rfl rfl rfl b54 rfl ?_
    refine h_k (y := 0) rfl rfl ?_
    refine h_ia 0 rfl b55 (by omega) rfl (by omega) ?_
    refine h_t g0 ?_
    refine h2_ge rfl rfl (fun h11 => absurd h11 (nI_ge hi (by omega))) (fun h11 => ?_)
    refine h_s rfl ?_
    refine h_gf rfl rfl rfl b54 rfl ?_
    refine h_s rfl ?_
    refine h_k (y := 2) rfl rfl ?_
    refine h_c rfl (m_at i 2 rfl rfl) ?_
    refine h_n (st2 := [_, _]) rfl ?_
    refine h_s rfl ?_
    refine h_ia (2 + 8 * i + 2) rfl b55 (by omega) rfl (by omega) ?_
    refine h_t g2 ?_
    iterate 2 refine h_s rfl ?_
    refine h_c rfl (m_has i (by omega)) ?_
    refine h_n (st2 := [_, _, _, _]) rfl ?_
    refine hz_eq rfl rfl (fun h32 => ?_) (fun h32 => ?_)
    · refine h_k (y := 0) rfl rfl ?_
      refine h_s rfl ?_
      refine h_is (2 + 8 * i + 2) rfl b55 (by omega) rfl (by omega) (fun w2 e2 f2 => ?_)
      refine h_ii rfl rfl rfl ?_
      refine h_s rfl ?_
      exact ih _ _ ⟨fun j hj => (f2 j hj).trans (F j hj), by rw [giveS, h32]; exact e2, rfl⟩
    · refine h_k (y := 1) rfl rfl ?_
      iterate 4 refine h_s rfl ?_
      refine h_is (2 + 8 * i + 2) rfl b55 (by omega) rfl (by omega) (fun w2 e2 f2 => ?_)
      refine h_ii rfl rfl rfl ?_
      refine h_s rfl ?_
      exact ih _ _ ⟨fun j hj => (f2 j hj).trans (F j hj), by rw [giveS, h32]; exact e2, rfl⟩
  · obtain ⟨F, b55, rfl⟩ := hJ
    have b54 := (F 54 (by decide)).trans a54
    have gl : (giveS s (bt x) f n).length = 90 := (give_l ..).trans l.1
    have g0 : (giveS s (bt x) f n).getD 0 0 = nI n := (give_D _ _ _ _ (fun h _ => by omega)).trans h0
    have M1 := (R0.s55 b55 gl g0 hn F).ms
    have I1 := give_SI I l.1 hn (show f < 8 by omega) (bt x) n (Nat.le_refl _)
    iterate 2 refine h_s rfl ?_
    refine h_gf rfl rfl rfl b54 rfl ?_
    refine h_k (y := 0) rfl rfl ?_
    refine h_ia 0 rfl b55 (by omega) rfl (by omega) ?_
    refine h_t g0 ?_
    refine h2_ge rfl rfl (fun h11 => ?_) (fun h11 => absurd (nI_le (Nat.le_refl _) (by omega)) h11)
    iterate 3 refine h_s rfl ?_
    refine h_cv rfl rfl rfl b54 rfl rfl (m_isOff M1 I1 f hf c) ?_
    refine h_n (st2 := [_]) rfl ?_
    refine h_s rfl ?_
    refine h_k (y := 0) rfl rfl ?_
    refine h_s rfl ?_
    refine h_loop0 n (fun i ls w2 => (∀ j, j ≠ 55 → w2[j]? = w1[j]?) ∧ (∃ xs : List Int32, w2[55]? = some (.inr xs) ∧ xs.length = 90 ∧ ∀ j, (∀ h, i ≤ h → h < n → j ≠ 2 + 8 * h + 2) → xs.getD j 0 = s.getD j 0) ∧ ls = [some (.ref 54), some (.int (nI f)), some (.int c), some (.int x), some (.int (z01 (offB (giveS s (bt x) f n) n f c))), some (.int (nI i))]) ⟨fun _ _ => rfl, ⟨_, b55, gl, fun j hj => give_D _ _ _ _ (fun h hh => hj h (by omega) hh)⟩, rfl⟩ (fun i ls w2 hi hJ ih => ?_) (fun ls w2 hJ => ?_)
    · obtain ⟨F2, ⟨xs, x55, xl, hx⟩, rfl⟩ := hJ
      have x54 := (F2 54 (by decide)).trans b54
      have x57 := ((F2 57 (by decide)).trans (F 57 (by decide))).trans ho
      have x0 : xs.getD 0 0 = nI n := (hx 0 (fun h _ _ => by omega)).trans h0
      iterate 2 refine h_s rfl ?_
      refine h_gf rfl rfl rfl x54 rfl ?_
      refine h_k (y := 0) rfl rfl ?_
      refine h_ia 0 rfl x55 (by omega) rfl (by omega) ?_
      refine h_t x0 ?_
      refine h2_ge rfl rfl (fun h69 => absurd h69 (nI_ge hi (by omega))) (fun h69 => ?_)
      refine h_s rfl ?_
      refine h_gf rfl rfl rfl x54 rfl ?_
      refine h_s rfl ?_
      refine h_k (y := 2) rfl rfl ?_
      refine h_c rfl (m_at i 2 rfl rfl) ?_
      refine h_n (st2 := [_, _]) rfl ?_
      refine h_s rfl ?_
      refine h_gf rfl rfl rfl x54 rfl ?_
      refine h_s rfl ?_
      refine h_k (y := 2) rfl rfl ?_
      refine h_c rfl (m_at i 2 rfl rfl) ?_
      refine h_n (st2 := [_, _, _, _]) rfl ?_
      refine h_ia (2 + 8 * i + 2) rfl x57 (by omega) rfl (by omega) ?_
      refine h_is (2 + 8 * i + 2) rfl x55 (by omega) rfl (by omega) (fun w3 e3 f3 => ?_)
      refine h_ii rfl rfl rfl ?_
      refine h_s rfl ?_
      refine ih _ _ ⟨fun j hj => (f3 j hj).trans (F2 j hj), ⟨_, e3, (List.length_set ..).trans xl, fun j hj => ?_⟩, rfl⟩
      rw [gD_set _ _ _ _ (by omega)]
      by_cases e : j = 2 + 8 * i + 2
      · rw [if_pos e, e]
      · rw [if_neg e]
        refine hx j (fun h h1 h2 => ?_)
        by_cases e4 : h = i
        · rw [e4]; exact e
        · exact hj h (by omega) h2
    · obtain ⟨F2, ⟨xs, x55, xl, hx⟩, rfl⟩ := hJ
      have x54 := (F2 54 (by decide)).trans b54
      have x0 : xs.getD 0 0 = nI n := (hx 0 (fun h _ _ => by omega)).trans h0
      have hE : xs = s := l_ext (m := 90) xl l.1 (fun j _ => hx j (fun h h1 h2 => by omega))
      iterate 2 refine h_s rfl ?_
      refine h_gf rfl rfl rfl x54 rfl ?_
      refine h_k (y := 0) rfl rfl ?_
      refine h_ia 0 rfl x55 (by omega) rfl (by omega) ?_
      refine h_t x0 ?_
      refine h2_ge rfl rfl (fun h69 => ?_) (fun h69 => absurd (nI_le (Nat.le_refl _) (by omega)) h69)
      refine h_s rfl ?_
      subst hE
      exact h_rz rfl rfl ⟨rfl, R0.s55 x55 l.1 h0 hn (fun j hj => (F2 j hj).trans (F j hj)), x55, fun j hj => (F2 j hj).trans (F j hj)⟩
end MH
