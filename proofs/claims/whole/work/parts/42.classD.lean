/-! THE CLASS: a row, what it finds by going through its houses -/
theorem any_even {s : List Int32} {n h q : Nat} (hh : h < n) : anyR (fun g => stB s n g (2 * h) q) n = (decide (q % 2 = 1) && decide (q / 2 < n) && decide (fld s h 1 = nI (q / 2))) := by
  rw [Bool.eq_iff_iff, anyR_iff]
  unfold stB
  simp only [Bool.or_eq_true, Bool.and_eq_true, decide_eq_true_eq]
  constructor
  · rintro ⟨g, hg, ⟨h1, h2⟩ | ⟨h1, h2⟩⟩
    · have : g = h := by omega
      subst this
      exact h2
    · exact absurd h2.1.1 (by omega)
  · intro h2
    exact ⟨h, hh, Or.inl ⟨rfl, h2⟩⟩
theorem stB_odd {s : List Int32} {n g h q : Nat} (hh : h < n) : stB s n g (2 * h + 1) q = (decide (q = 2 * g) && decide (fld s g 1 = nI h)) := by
  unfold stB
  rw [show decide (2 * h + 1 = 2 * g) = false from decide_eq_false (by omega), show decide ((2 * h + 1) % 2 = 1) = true from decide_eq_true (by omega), show (2 * h + 1) / 2 = h by omega, decide_eq_true hh]
  simp
/-- the leaves that a house has for a try -/
def lvG (s : List Int32) (em gi : Int32) (f h : Nat) : Int32 := if bt gi h = true then (if bt em h = true then 0 else fld s h 2) ||| (1 : Int32) <<< (nI f &&& 31) else (if bt em h = true then 0 else fld s h 2)
/-- who is named by those of p -/
def namB (s : List Int32) (n : Nat) (p : Nat → Bool) (g : Nat) : Bool := anyR (fun h => p h && (bt (fld s h 2) g && !decide (g = h))) n
theorem mask_n : ∀ n, n ≤ 8 → ((1 : Int32) <<< (nI n &&& 31)) - 1 = bs (fun _ => true) n := by decide +kernel
theorem bs_mask {p : Nat → Bool} {n : Nat} (hn : n ≤ 8) : bs p 8 &&& bs (fun _ => true) n = bs p n := by
  apply b_ext
  intro i hi
  rw [b_and, bt_bs _ _ _ (by omega) hi, bt_bs _ _ _ (by omega) hi, bt_bs _ _ _ (by omega) hi]
  by_cases h1 : i < n
  · simp [h1, show i < 8 by omega]
  · simp [h1]
theorem not_one {x : Int32} {i : Nat} (hx : inn x 8) (hi : i < 8) : x &&& (((1 : Int32) <<< (nI i &&& 31)) ^^^ (-1)) = bs (fun g => bt x g && !decide (g = i)) 8 := by
  apply b_ext
  intro j hj
  rw [b_and, b_xor, b_sh (by omega) hj, b_m1 j hj, bt_bs _ _ _ (by omega) hj]
  by_cases h1 : j < 8
  · simp [h1]
  · simp [h1, hx j (by omega) hj]
theorem nam_next {s : List Int32} {p : Nat → Bool} {i : Nat} (hx : inn (fld s i 2) 8) (hi : i < 8) (hp : p i = true) : bs (namB s i p) 8 ||| (fld s i 2 &&& (((1 : Int32) <<< (nI i &&& 31)) ^^^ (-1))) = bs (namB s (i + 1) p) 8 := by
  rw [not_one hx hi, bs_or (by omega)]
  exact bs_cong (fun g _ => by
    show (namB s i p g || (bt (fld s i 2) g && !decide (g = i))) = (namB s i p g || (p i && (bt (fld s i 2) g && !decide (g = i))))
    rw [hp, Bool.true_and])
theorem nam_same {s : List Int32} {p : Nat → Bool} {i : Nat} (hp : p i = false) : bs (namB s i p) 8 = bs (namB s (i + 1) p) 8 := bs_cong (fun g _ => by
    show namB s i p g = (namB s i p g || (p i && (bt (fld s i 2) g && !decide (g = i))))
    rw [hp, Bool.false_and, Bool.or_false])
theorem pk_neg {m : Nat} (h : m < 2) : (nI m - 2).toInt < 0 := by
  rcases (show m = 0 ∨ m = 1 by omega) with rfl | rfl <;> decide
section XE
variable {X : List Int32} {w : ab_W} {r n : Nat} {s : List Int32}
set_option maxRecDepth 100000 in
set_option maxHeartbeats 4000000 in
theorem x_b46e (R : RowW w r s n) (I : SI s n) (h : Nat) (hh : h < n) (B : Nat → Bool) (xs : Int32) (hx : xs = bs B 16) : ab_G X kX2_besides 46 [some (.ref r), some (.int (nI (2 * h + 0))), some (.int xs), none, none] [] w (some (.int (bs (fun q => B q || anyR (fun g => stB s n g (2 * h + 0) q) n) 16))) w := by
  have R0 := R
  obtain ⟨r0, r1, r2, r3, r4, hl, h0, hn⟩ := R
  refine ab_s rfl ?_
  refine ab_k (y := 2) rfl rfl ?_
  refine ab_Ndiv (b := 2) rfl rfl rfl (by omega) (by omega) (by omega) ?_
  iterate 2 refine ab_s rfl ?_
  refine ab_k (y := 2) rfl rfl ?_
  refine ab_Nrem (b := 2) rfl rfl rfl (by omega) (by omega) (by omega) ?_
  refine jM_ne rfl rfl rfl rfl (by omega) (fun h53 => absurd (by omega) h53) (fun h53 => ?_)
  iterate 2 refine ab_s rfl ?_
  refine ab_cv rfl rfl rfl r0 rfl rfl (x_stairOf R0 (h := (2 * h + 0) / 2) (by omega)) ?_
  refine ab_n (st2 := [_]) rfl ?_
  iterate 3 refine ab_s rfl ?_
  refine ab_cv rfl rfl rfl r0 rfl rfl (x_rhas R0 (fld s ((2 * h + 0) / 2) 1)) ?_
  refine ab_n (st2 := [_]) rfl ?_
  refine z1_eq rfl rfl (fun h69 => ?_) (fun h69 => ?_)
  · refine ab_s rfl ?_
    rw [show (2 * h + 0) / 2 = h by omega] at h69
    exact ab_ri rfl (by
      rw [hx]
      exact bs_cong (fun q hq => by
        rw [show 2 * h + 0 = 2 * h from rfl, any_even hh]
        have : (decide (q % 2 = 1) && decide (q / 2 < n) && decide (fld s h 1 = nI (q / 2))) = false := by
          apply Bool.eq_false_iff.mpr
          intro k
          simp only [Bool.and_eq_true, decide_eq_true_eq] at k
          rw [k.2, inN_nI (by omega), decide_eq_false_iff_not] at h69
          exact h69 k.1.2
        rw [this, Bool.or_false]))
  · refine ab_s rfl ?_
    refine ab_k (y := 1) rfl rfl ?_
    refine ab_k (y := 2) rfl rfl ?_
    refine ab_s rfl ?_
    obtain ⟨t, ht, e⟩ := inN_t (by omega) h69
    refine ab_Nmul (a := 2) (b := t) rfl rfl e ?_
    refine ab_k (y := 1) rfl rfl ?_
    refine ab_Nadd (b := 1) rfl rfl rfl ?_
    iterate 3 refine ab_s rfl ?_
    rw [show (2 * h + 0) / 2 = h by omega] at e
    exact ab_ri rfl (by
      rw [hx]
      exact bs_or1 (by omega) (by omega) (fun q hq => by
        rw [show 2 * h + 0 = 2 * h from rfl, any_even hh, e]
        congr 1
        rw [Bool.eq_iff_iff]
        simp only [Bool.and_eq_true, decide_eq_true_eq]
        rw [nI_eq (by omega) (by omega)]
        omega))
set_option maxRecDepth 100000 in
set_option maxHeartbeats 4000000 in
theorem x_b46o (R : RowW w r s n) (I : SI s n) (h : Nat) (hh : h < n) (B : Nat → Bool) (xs : Int32) (hx : xs = bs B 16) : ab_G X kX2_besides 46 [some (.ref r), some (.int (nI (2 * h + 1))), some (.int xs), none, none] [] w (some (.int (bs (fun q => B q || anyR (fun g => stB s n g (2 * h + 1) q) n) 16))) w := by
  have R0 := R
  obtain ⟨r0, r1, r2, r3, r4, hl, h0, hn⟩ := R
  refine ab_s rfl ?_
  refine ab_k (y := 2) rfl rfl ?_
  refine ab_Ndiv (b := 2) rfl rfl rfl (by omega) (by omega) (by omega) ?_
  iterate 2 refine ab_s rfl ?_
  refine ab_k (y := 2) rfl rfl ?_
  refine ab_Nrem (b := 2) rfl rfl rfl (by omega) (by omega) (by omega) ?_
  refine jM_ne rfl rfl rfl rfl (by omega) (fun h53 => ?_) (fun h53 => absurd h53 (by omega))
  refine ab_k (y := 0) rfl rfl ?_
  refine ab_s rfl ?_
  refine g_loop0 n (fun i ls => ls = [some (.ref r), some (.int (nI (2 * h + 1))), some (.int (bs (fun q => B q || anyR (fun g => stB s n g (2 * h + 1) q) i) 16)), some (.int (nI ((2 * h + 1) / 2))), some (.int (nI i))]) (by rw [hx, show (fun q => B q || anyR (fun g => stB s n g (2 * h + 1) q) 0) = B from funext (fun q => Bool.or_false _)]; rfl) (fun i ls hi hJ ih => ?_) (fun ls hJ => ?_)
  · obtain rfl := hJ
    iterate 2 refine ab_s rfl ?_
    refine ab_gf rfl rfl rfl r0 rfl ?_
    refine jN_ge rfl rfl rfl rfl (by omega) (by omega) (fun h96 => absurd h96 (by omega)) (fun h96 => ?_)
    iterate 2 refine ab_s rfl ?_
    refine ab_cv rfl rfl rfl r0 rfl rfl (x_stairOf R0 hi) ?_
    refine ab_n (st2 := [_]) rfl ?_
    refine ab_s rfl ?_
    refine j2_ne rfl rfl (fun h106 => ?_) (fun h106 => ?_)
    · refine ab_ii rfl rfl rfl ?_
      refine ab_s rfl ?_
      rw [show (2 * h + 1) / 2 = h by omega] at h106
      exact ih _ (by rw [any_f (B := B) (F := fun g q => stB s n g (2 * h + 1) q) (i := i) (fun q _ => by show stB s n i (2 * h + 1) q = false; rw [stB_odd hh, decide_eq_false h106, Bool.and_false])]; rfl)
    · refine ab_s rfl ?_
      refine ab_k (y := 1) rfl rfl ?_
      refine ab_k (y := 2) rfl rfl ?_
      refine ab_s rfl ?_
      refine ab_Nmul (a := 2) rfl rfl rfl ?_
      iterate 3 refine ab_s rfl ?_
      refine ab_ii rfl rfl rfl ?_
      refine ab_s rfl ?_
      rw [show (2 * h + 1) / 2 = h by omega] at h106
      exact ih _ (by rw [← any_t (B := B) (F := fun g q => stB s n g (2 * h + 1) q) (i := i) (j := 2 * i) (by omega) (fun q _ => by show stB s n i (2 * h + 1) q = _; rw [stB_odd hh, decide_eq_true h106, Bool.and_true])]; rfl)
  · obtain rfl := hJ
    iterate 2 refine ab_s rfl ?_
    refine ab_gf rfl rfl rfl r0 rfl ?_
    refine jN_ge rfl rfl rfl rfl (by omega) (by omega) (fun h96 => ?_) (fun h96 => absurd (by omega) h96)
    refine ab_s rfl ?_
    exact ab_ri rfl rfl
set_option maxRecDepth 100000 in
set_option maxHeartbeats 4000000 in
theorem x_b28 (R : RowW w r s n) (I : SI s n) (m : Nat) (hm : m < 2 * n) (B : Nat → Bool) (xs : Int32) (hx : xs = bs B 16) : ab_G X kX2_besides 28 [some (.ref r), some (.int (nI m)), some (.int xs), none, none] [] w (some (.int (bs (fun q => (B q || (decide (q + 2 = m) && dB s q)) || anyR (fun g => stB s n g m q) n) 16))) w := by
  have R0 := R
  obtain ⟨r0, r1, r2, r3, r4, hl, h0, hn⟩ := R
  have K : ∀ ys : Int32, ys = bs (fun q => B q || (decide (q + 2 = m) && dB s q)) 16 → ab_G X kX2_besides 46 [some (.ref r), some (.int (nI m)), some (.int ys), none, none] [] w (some (.int (bs (fun q => (B q || (decide (q + 2 = m) && dB s q)) || anyR (fun g => stB s n g m q) n) 16))) w := by
    intro ys hy
    rcases Nat.mod_two_eq_zero_or_one m with e | e
    · have e2 : m = 2 * (m / 2) + 0 := by omega
      have k := x_b46e (X := X) R0 I (m / 2) (by omega) _ ys hy
      rw [← e2] at k
      exact k
    · have e2 : m = 2 * (m / 2) + 1 := by omega
      have k := x_b46o (X := X) R0 I (m / 2) (by omega) _ ys hy
      rw [← e2] at k
      exact k
  by_cases h2 : 2 ≤ m
  · iterate 2 refine ab_s rfl ?_
    refine ab_k (y := 2) rfl rfl ?_
    refine ab_Nsub (b := 2) rfl rfl rfl (by omega) ?_
    refine ab_cv rfl rfl rfl r0 rfl rfl (x_isOpen R0 (nI (m - 2))) ?_
    refine ab_n (st2 := [_]) rfl ?_
    refine z1_eq rfl rfl (fun h35 => ?_) (fun h35 => ?_)
    · rw [inN_nI (by omega), decide_eq_true (by omega), Bool.true_and, nI_clamp (by omega)] at h35
      exact K _ (by rw [hx]; exact bs_cong (fun q _ => by rw [dd h35, Bool.and_false, Bool.or_false]))
    · refine ab_s rfl ?_
      refine ab_k (y := 1) rfl rfl ?_
      refine ab_s rfl ?_
      refine ab_k (y := 2) rfl rfl ?_
      refine ab_Nsub (b := 2) rfl rfl rfl (by omega) ?_
      iterate 3 refine ab_s rfl ?_
      rw [inN_nI (by omega), decide_eq_true (by omega), Bool.true_and, nI_clamp (by omega)] at h35
      exact K _ (by rw [hx]; exact bs_or1 (by omega) (by omega) (fun q _ => by rw [dd h35, Bool.and_true]; congr 1; exact decide_eq_decide.mpr (by omega)))
  · iterate 2 refine ab_s rfl ?_
    refine ab_k (y := 2) rfl rfl ?_
    refine ab_s rfl ?_
    refine ab_cv rfl rfl rfl r0 rfl rfl (x_isOpen R0 (nI m - 2)) ?_
    refine ab_n (st2 := [_]) rfl ?_
    refine z1_eq rfl rfl (fun h35 => ?_) (fun h35 => absurd (show (true = false) from h35.symm.trans (show _ = false from by rw [inN_neg (pk_neg (by omega))]; rfl)) (by decide))
    exact K _ (by rw [hx]; exact bs_cong (fun q _ => by rw [decide_eq_false (by omega), Bool.false_and, Bool.or_false]))
set_option maxRecDepth 100000 in
set_option maxHeartbeats 4000000 in
theorem x_besides (R : RowW w r s n) (I : SI s n) {m : Nat} (hm : m < 2 * n) : ab_M X kX2_besides [.ref r, .int (nI m)] w (some (.int (bs (adjB s n m) 16))) w := by
  have R0 := R
  obtain ⟨r0, r1, r2, r3, r4, hl, h0, hn⟩ := R
  show ab_G X kX2_besides 0 [some (.ref r), some (.int (nI m)), none, none, none] [] w _ _
  refine ab_k (y := 0) rfl rfl ?_
  iterate 3 refine ab_s rfl ?_
  refine ab_cv rfl rfl rfl r0 rfl rfl (x_isOpen R0 (nI m)) ?_
  refine ab_n (st2 := [_]) rfl ?_
  refine z1_eq rfl rfl (fun h7 => ?_) (fun h7 => ?_)
  · have k := x_b28 (X := X) R0 I m hm (fun q => decide (q = m + 2 ∧ m + 2 < 2 * n) && dB s m) ((0 : Int32)) (((bs_zero (by omega)).mpr (fun q _ => by rw [show (decide (q = m + 2 ∧ m + 2 < 2 * n) && dB s m) = false from by 
      rw [inN_nI (by omega), nI_clamp (by omega)] at h7
      by_cases h14 : m < 14
      · rw [decide_eq_true h14, Bool.true_and] at h7
        rw [h7, Bool.and_false]
      · rw [decide_eq_false (by omega), Bool.false_and]])).symm)
    rw [bs_cong (q := adjB s n m) (fun q hq => by rw [adjB_e hm hn hq I, Bool.or_comm (decide (q + 2 = m) && dB s q)])] at k
    exact k
  · iterate 2 refine ab_s rfl ?_
    refine ab_k (y := 2) rfl rfl ?_
    refine ab_Nadd (b := 2) rfl rfl rfl ?_
    refine ab_cv rfl rfl rfl r0 rfl rfl (x_hasRoom R0 (nI (m + 2))) ?_
    refine ab_n (st2 := [_]) rfl ?_
    refine z1_eq rfl rfl (fun h17 => ?_) (fun h17 => ?_)
    · have k := x_b28 (X := X) R0 I m hm (fun q => decide (q = m + 2 ∧ m + 2 < 2 * n) && dB s m) ((0 : Int32)) (((bs_zero (by omega)).mpr (fun q _ => by rw [show (decide (q = m + 2 ∧ m + 2 < 2 * n) && dB s m) = false from by 
        rw [inN_nI (by omega), decide_eq_false_iff_not] at h17
        rw [decide_eq_false (by omega), Bool.false_and]])).symm)
      rw [bs_cong (q := adjB s n m) (fun q hq => by rw [adjB_e hm hn hq I, Bool.or_comm (decide (q + 2 = m) && dB s q)])] at k
      exact k
    · refine ab_s rfl ?_
      refine ab_k (y := 1) rfl rfl ?_
      refine ab_s rfl ?_
      refine ab_k (y := 2) rfl rfl ?_
      refine ab_Nadd (b := 2) rfl rfl rfl ?_
      iterate 3 refine ab_s rfl ?_
      have k := x_b28 (X := X) R0 I m hm (fun q => decide (q = m + 2 ∧ m + 2 < 2 * n) && dB s m) ((0 : Int32) ||| (1 : Int32) <<< (nI (m + 2) &&& 31)) (by
        rw [inN_nI (by omega), decide_eq_true_eq] at h17
        rw [inN_nI (by omega), nI_clamp (by omega), Bool.and_eq_true] at h7
        rw [show (0 : Int32) = bs (fun _ => false) 16 from ((bs_zero (by omega)).mpr (fun _ _ => rfl)).symm]
        exact bs_or1 (by omega) (by omega) (fun q _ => by rw [h7.2, Bool.and_true, Bool.false_or]; exact decide_eq_decide.mpr (by omega)))
      rw [bs_cong (q := adjB s n m) (fun q hq => by rw [adjB_e hm hn hq I, Bool.or_comm (decide (q + 2 = m) && dB s q)])] at k
      exact k
end XE
