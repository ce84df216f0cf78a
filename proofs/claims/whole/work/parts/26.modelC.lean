/-! THE REFERENCE: copies of the row; counts -/
def sumI (g : Nat → Int32) : Nat → Int32
  | 0 => 0
  | m + 1 => sumI g m + g m
theorem sumI_cong {g g' : Nat → Int32} : ∀ {m : Nat}, (∀ i, i < m → g i = g' i) → sumI g m = sumI g' m
  | 0, _ => rfl
  | m + 1, h => by rw [sumI, sumI, sumI_cong (fun i hi => h i (by omega)), h m (by omega)]
theorem cnt_t {p : Nat → Bool} {i : Nat} (h : p i = true) : nI (cntR p i) + 1 = nI (cntR p (i + 1)) := by
  rw [cntR, h, if_pos rfl, ← nI_succ]
theorem cnt_f {p : Nat → Bool} {i : Nat} (h : p i = false) : nI (cntR p i) + 0 = nI (cntR p (i + 1)) := by
  rw [cntR, h, if_neg (by decide)]
  exact Int32.add_zero _
theorem cnt_z {p : Nat → Bool} {i : Nat} {x : Int32} (h : x = z01 (p i)) : nI (cntR p i) + x = nI (cntR p (i + 1)) := by
  cases hp : p i with
  | true => rw [h, hp]; exact cnt_t hp
  | false => rw [h, hp]; exact cnt_f hp
section MC
variable {X : List Int32} {w : ab_W} {s : List Int32} {n : Nat} {st ks : List Int32} {kp : Bool} {tp : List Int32} {tn : Nat} {bo so nu : List Int32}
set_option maxRecDepth 100000 in
set_option maxHeartbeats 4000000 in
theorem m_puts (R : MW w s n st ks kp tp tn bo so nu) : ab_Q X kX6_puts [.ref 54] w (fun v w1 => v = none ∧ MW w1 s n st ks kp tp tn bo so nu ∧ w1[57]? = some (.inr s) ∧ ∀ i, i ≠ 57 → w1[i]? = w[i]?) := by
  have M := R.ms
  have R0 := R
  obtain ⟨oth, nz, mv, fr, to, vl, wr, a54, a55, a56, a57, a58, a59, a60, a61, a62, a63, a64, l, h0, hn, ht⟩ := R
  show ab_H X kX6_puts 0 [some (.ref 54), none] [] w _
  refine h_k (y := 0) rfl rfl ?_
  refine h_s rfl ?_
  refine h_loop0 90 (fun i ls w1 => (∀ j, j ≠ 57 → w1[j]? = w[j]?) ∧ ls = [some (.ref 54), some (.int (nI i))] ∧ ∃ xs : List Int32, w1[57]? = some (.inr xs) ∧ xs.length = 90 ∧ ∀ j, j < i → xs.getD j 0 = s.getD j 0) ⟨fun _ _ => rfl, rfl, oth, a57, by omega, fun j hj => absurd hj (by omega)⟩ (fun i ls w1 hi hJ ih => ?_) (fun ls w1 hJ => ?_)
  · obtain ⟨F, rfl, xs, e5, l5, hx⟩ := hJ
    have a54 := (F 54 (by decide)).trans a54
    have aS := (F 55 (by decide)).trans a55
    refine h_s rfl ?_
    refine h_k (y := 90) rfl rfl ?_
    refine h2_ge rfl rfl (fun h5 => absurd h5 (nI_ge (b := 90) hi (by omega))) (fun h5 => ?_)
    refine h_s rfl ?_
    refine h_gf rfl rfl rfl a54 rfl ?_
    iterate 2 refine h_s rfl ?_
    refine h_gf rfl rfl rfl a54 rfl ?_
    refine h_s rfl ?_
    refine h_ia i rfl aS (by omega) rfl (by omega) ?_
    refine h_is i rfl e5 (by omega) rfl (by omega) (fun w2 e2 f2 => ?_)
    refine h_ii rfl rfl rfl ?_
    refine h_s rfl ?_
    refine ih _ _ ⟨fun j hj => (f2 j hj).trans (F j hj), rfl, _, e2, (List.length_set ..).trans l5, fun j hj => ?_⟩
    rw [gD_set _ _ _ _ (by omega)]
    by_cases e : j = i
    · rw [if_pos e, e]
    · rw [if_neg e]; exact hx j (by omega)
  · obtain ⟨F, rfl, xs, e5, l5, hx⟩ := hJ
    have a54 := (F 54 (by decide)).trans a54
    have hE := l_ext (m := 90) (by omega) (by omega) hx
    subst hE
    refine h_s rfl ?_
    refine h_k (y := 90) rfl rfl ?_
    refine h2_ge rfl rfl (fun h5 => ?_) (fun h5 => absurd (nI_le (a := 90) (b := 90) (Nat.le_refl _) (by omega)) h5)
    exact h_r rfl ⟨rfl, R0.o57 e5 (by omega) F, e5, F⟩
set_option maxRecDepth 100000 in
set_option maxHeartbeats 4000000 in
theorem m_putsBack (R : MW w s n st ks kp tp tn bo so nu) (o : List Int32) (m : Nat) (ho : w[57]? = some (.inr o)) (ho0 : o.getD 0 0 = nI m) (hm : m ≤ 8) : ab_Q X kX6_putsBack [.ref 54] w (fun v w1 => v = none ∧ MW w1 o m st ks kp tp tn bo so nu ∧ ∀ i, i ≠ 55 → w1[i]? = w[i]?) := by
  have M := R.ms
  have R0 := R
  obtain ⟨oth, nz, mv, fr, to, vl, wr, a54, a55, a56, a57, a58, a59, a60, a61, a62, a63, a64, l, h0, hn, ht⟩ := R
  have hoo : oth = o := by rw [a57] at ho; exact Sum.inr.inj (Option.some.inj ho)
  subst hoo
  show ab_H X kX6_putsBack 0 [some (.ref 54), none] [] w _
  refine h_k (y := 0) rfl rfl ?_
  refine h_s rfl ?_
  refine h_loop0 90 (fun i ls w1 => (∀ j, j ≠ 55 → w1[j]? = w[j]?) ∧ ls = [some (.ref 54), some (.int (nI i))] ∧ ∃ xs : List Int32, w1[55]? = some (.inr xs) ∧ xs.length = 90 ∧ ∀ j, j < i → xs.getD j 0 = oth.getD j 0) ⟨fun _ _ => rfl, rfl, s, a55, by omega, fun j hj => absurd hj (by omega)⟩ (fun i ls w1 hi hJ ih => ?_) (fun ls w1 hJ => ?_)
  · obtain ⟨F, rfl, xs, e5, l5, hx⟩ := hJ
    have a54 := (F 54 (by decide)).trans a54
    have aS := (F 57 (by decide)).trans a57
    refine h_s rfl ?_
    refine h_k (y := 90) rfl rfl ?_
    refine h2_ge rfl rfl (fun h5 => absurd h5 (nI_ge (b := 90) hi (by omega))) (fun h5 => ?_)
    refine h_s rfl ?_
    refine h_gf rfl rfl rfl a54 rfl ?_
    iterate 2 refine h_s rfl ?_
    refine h_gf rfl rfl rfl a54 rfl ?_
    refine h_s rfl ?_
    refine h_ia i rfl aS (by omega) rfl (by omega) ?_
    refine h_is i rfl e5 (by omega) rfl (by omega) (fun w2 e2 f2 => ?_)
    refine h_ii rfl rfl rfl ?_
    refine h_s rfl ?_
    refine ih _ _ ⟨fun j hj => (f2 j hj).trans (F j hj), rfl, _, e2, (List.length_set ..).trans l5, fun j hj => ?_⟩
    rw [gD_set _ _ _ _ (by omega)]
    by_cases e : j = i
    · rw [if_pos e, e]
    · rw [if_neg e]; exact hx j (by omega)
  · obtain ⟨F, rfl, xs, e5, l5, hx⟩ := hJ
    have a54 := (F 54 (by decide)).trans a54
    have hE := l_ext (m := 90) (by omega) (by omega) hx
    subst hE
    refine h_s rfl ?_
    refine h_k (y := 90) rfl rfl ?_
    refine h2_ge rfl rfl (fun h5 => ?_) (fun h5 => absurd (nI_le (a := 90) (b := 90) (Nat.le_refl _) (by omega)) h5)
    exact h_r rfl ⟨rfl, R0.s55 e5 (by omega) ho0 hm F, F⟩
set_option maxRecDepth 100000 in
set_option maxHeartbeats 4000000 in
theorem m_image (R : MW w s n st ks kp tp tn bo so nu) : ab_Q X kX6_image [.ref 54] w (MP w 1 s n st s true tp tn bo so nu) := by
  have M := R.ms
  have R0 := R
  obtain ⟨oth, nz, mv, fr, to, vl, wr, a54, a55, a56, a57, a58, a59, a60, a61, a62, a63, a64, l, h0, hn, ht⟩ := R
  show ab_H X kX6_image 0 [some (.ref 54), none] [] w _
  refine h_k (y := 0) rfl rfl ?_
  refine h_s rfl ?_
  refine h_loop0 90 (fun i ls w1 => (∀ j, j ≠ 56 → w1[j]? = w[j]?) ∧ ls = [some (.ref 54), some (.int (nI i))] ∧ ∃ xs : List Int32, w1[56]? = some (.inr xs) ∧ xs.length = 90 ∧ ∀ j, j < i → xs.getD j 0 = s.getD j 0) ⟨fun _ _ => rfl, rfl, ks, a56, by omega, fun j hj => absurd hj (by omega)⟩ (fun i ls w1 hi hJ ih => ?_) (fun ls w1 hJ => ?_)
  · obtain ⟨F, rfl, xs, e5, l5, hx⟩ := hJ
    have a54 := (F 54 (by decide)).trans a54
    have aS := (F 55 (by decide)).trans a55
    refine h_s rfl ?_
    refine h_k (y := 90) rfl rfl ?_
    refine h2_ge rfl rfl (fun h5 => absurd h5 (nI_ge (b := 90) hi (by omega))) (fun h5 => ?_)
    refine h_s rfl ?_
    refine h_gf rfl rfl rfl a54 rfl ?_
    iterate 2 refine h_s rfl ?_
    refine h_gf rfl rfl rfl a54 rfl ?_
    refine h_s rfl ?_
    refine h_ia i rfl aS (by omega) rfl (by omega) ?_
    refine h_is i rfl e5 (by omega) rfl (by omega) (fun w2 e2 f2 => ?_)
    refine h_ii rfl rfl rfl ?_
    refine h_s rfl ?_
    refine ih _ _ ⟨fun j hj => (f2 j hj).trans (F j hj), rfl, _, e2, (List.length_set ..).trans l5, fun j hj => ?_⟩
    rw [gD_set _ _ _ _ (by omega)]
    by_cases e : j = i
    · rw [if_pos e, e]
    · rw [if_neg e]; exact hx j (by omega)
  · obtain ⟨F, rfl, xs, e5, l5, hx⟩ := hJ
    have a54 := (F 54 (by decide)).trans a54
    have hE := l_ext (m := 90) (by omega) (by omega) hx
    subst hE
    refine h_s rfl ?_
    refine h_k (y := 90) rfl rfl ?_
    refine h2_ge rfl rfl (fun h5 => ?_) (fun h5 => absurd (nI_le (a := 90) (b := 90) (Nat.le_refl _) (by omega)) h5)
    refine h_s rfl ?_
    refine h_k (y := 1) rfl rfl ?_
    refine h_pf rfl rfl a54 rfl (fun w3 e3 f3 => ?_)
    refine h_k (y := 1) rfl rfl ?_
    exact h_ri rfl rfl ⟨rfl, (R0.k56 e5 (by omega) F).o54 true tn fr to vl wr ht e3 f3, fun i hi => (f3 i (by omega)).trans (F i (by omega))⟩
set_option maxRecDepth 100000 in
set_option maxHeartbeats 4000000 in
theorem m_undo (R : MW w s n st ks kp tp tn bo so nu) (m : Nat) (hk : kp = true) (ho0 : ks.getD 0 0 = nI m) (hm : m ≤ 8) : ab_Q X kX6_undo [.ref 54] w (MP w (nI m) ks m st ks kp tp tn bo so nu) := by
  have M := R.ms
  have R0 := R
  obtain ⟨oth, nz, mv, fr, to, vl, wr, a54, a55, a56, a57, a58, a59, a60, a61, a62, a63, a64, l, h0, hn, ht⟩ := R
  subst hk
  show ab_H X kX6_undo 0 [some (.ref 54), none] [] w _
  refine h_s rfl ?_
  refine h_gf rfl rfl rfl a54 rfl ?_
  refine h_s rfl ?_
  refine h_k (y := 0) rfl rfl ?_
  refine h_s rfl ?_
  refine h_loop0 90 (fun i ls w1 => (∀ j, j ≠ 55 → w1[j]? = w[j]?) ∧ ls = [some (.ref 54), some (.int (nI i))] ∧ ∃ xs : List Int32, w1[55]? = some (.inr xs) ∧ xs.length = 90 ∧ ∀ j, j < i → xs.getD j 0 = ks.getD j 0) ⟨fun _ _ => rfl, rfl, s, a55, by omega, fun j hj => absurd hj (by omega)⟩ (fun i ls w1 hi hJ ih => ?_) (fun ls w1 hJ => ?_)
  · obtain ⟨F, rfl, xs, e5, l5, hx⟩ := hJ
    have a54 := (F 54 (by decide)).trans a54
    have aS := (F 56 (by decide)).trans a56
    refine h_s rfl ?_
    refine h_k (y := 90) rfl rfl ?_
    refine h2_ge rfl rfl (fun h19 => absurd h19 (nI_ge (b := 90) hi (by omega))) (fun h19 => ?_)
    refine h_s rfl ?_
    refine h_gf rfl rfl rfl a54 rfl ?_
    iterate 2 refine h_s rfl ?_
    refine h_gf rfl rfl rfl a54 rfl ?_
    refine h_s rfl ?_
    refine h_ia i rfl aS (by omega) rfl (by omega) ?_
    refine h_is i rfl e5 (by omega) rfl (by omega) (fun w2 e2 f2 => ?_)
    refine h_ii rfl rfl rfl ?_
    refine h_s rfl ?_
    refine ih _ _ ⟨fun j hj => (f2 j hj).trans (F j hj), rfl, _, e2, (List.length_set ..).trans l5, fun j hj => ?_⟩
    rw [gD_set _ _ _ _ (by omega)]
    by_cases e : j = i
    · rw [if_pos e, e]
    · rw [if_neg e]; exact hx j (by omega)
  · obtain ⟨F, rfl, xs, e5, l5, hx⟩ := hJ
    have a54 := (F 54 (by decide)).trans a54
    have hE := l_ext (m := 90) (by omega) (by omega) hx
    subst hE
    refine h_s rfl ?_
    refine h_k (y := 90) rfl rfl ?_
    refine h2_ge rfl rfl (fun h19 => ?_) (fun h19 => absurd (nI_le (a := 90) (b := 90) (Nat.le_refl _) (by omega)) h19)
    refine h_s rfl ?_
    refine h_gf rfl rfl rfl a54 rfl ?_
    refine h_k (y := 0) rfl rfl ?_
    refine h_ia 0 rfl e5 (by omega) rfl (by omega) ?_
    refine h_t ho0 ?_
    exact h_ri rfl rfl ⟨rfl, R0.s55 e5 (by omega) ho0 hm F, fun i hi => F i (by omega)⟩
end MC
