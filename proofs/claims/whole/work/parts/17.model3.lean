/-! THE REFERENCE: sets of houses and rooms, who stands by whom -/
def wakeV (s : List Int32) (h : Nat) (c : Int32) : Int32 := if fld s h 0 = 3 then 0 else if fld s h 0 = 5 then (if 21 < c ∨ c < 6 then fld s h 6 else 0) + 1 else (if 21 < c ∨ c < 6 then fld s h 6 else 0)
def dB (s : List Int32) (d : Nat) : Bool := decide (s.getD (66 + d) 0 = 1)
def gB (n i : Nat) : Bool := decide (i % 2 = 0) && decide (i / 2 < n)
def opB (s : List Int32) (n f : Nat) (c : Int32) (r : Nat) : Bool := decide (r / 2 < n) && letB s (r / 2) f c
/-- a stair of g joins r and q -/
def stB (s : List Int32) (n g r q : Nat) : Bool := (decide (r = 2 * g) && (decide (q % 2 = 1) && decide (q / 2 < n) && decide (fld s g 1 = nI (q / 2)))) || (decide (q = 2 * g) && (decide (r % 2 = 1) && decide (r / 2 < n) && decide (fld s g 1 = nI (r / 2))))
def adjB (s : List Int32) (n r q : Nat) : Bool := decide (r < 2 * n) && decide (q < 2 * n) && ((decide (q + 2 = r) && dB s q) || (decide (q = r + 2) && dB s r) || anyR (fun g => stB s n g r q) n)
theorem adjB_sym (s : List Int32) (n r q : Nat) : adjB s n r q = adjB s n q r := by
  have h : ∀ g, stB s n g r q = stB s n g q r := fun g => by unfold stB; rw [Bool.or_comm]
  unfold adjB
  rw [anyR_cong (fun g _ => h g), Bool.and_comm (decide (r < 2 * n))]
  have e : ∀ a b : Nat, decide (a = b + 2) = decide (b + 2 = a) := fun a b => decide_eq_decide.mpr ⟨fun h => h.symm, fun h => h.symm⟩
  rw [e q r, e r q]
  congr 1
  rw [Bool.or_comm (decide (q + 2 = r) && dB s q)]
theorem fld_l (s : List Int32) (h k : Nat) : fld s h k = s.getD (2 + 8 * h + k) 0 := rfl
section M3
variable {X : List Int32} {w : ab_W} {s : List Int32} {n : Nat}
set_option maxRecDepth 100000 in
set_option maxHeartbeats 4000000 in
theorem m_lettingSet (M : MS w s n) (I : SI s n) (f : Nat) (hf : f < 8) (c : Int32) : ab_M X kX6_lettingSet [.ref 54, .int (nI f), .int c] w (some (.int (bs (fun h => letB s h f c) n))) w := by
  obtain ⟨vs, hm, hv, hs, hl, h0, hn⟩ := id M
  show ab_G X kX6_lettingSet 0 [some (.ref 54), some (.int (nI f)), some (.int c), none, none] [] w _ _
  refine ab_k (y := 0) rfl rfl ?_
  refine ab_s rfl ?_
  refine ab_k (y := 0) rfl rfl ?_
  refine ab_s rfl ?_
  refine g_loop0 n (fun i ls => ls = [some (.ref 54), some (.int (nI f)), some (.int c), some (.int (bs (fun h => letB s h f c) i)), some (.int (nI i))]) rfl (fun i ls hi hJ ih => ?_) (fun ls hJ => ?_)
  · obtain rfl := hJ
    iterate 2 refine ab_s rfl ?_
    refine ab_gf rfl rfl rfl hm hv ?_
    refine ab_k (y := 0) rfl rfl ?_
    refine ab_ia 0 rfl hs (by omega) rfl (by omega) ?_
    refine ab_t h0 ?_
    refine j2_ge rfl rfl (fun h13 => absurd h13 (nI_ge hi (by omega))) (fun h13 => ?_)
    iterate 5 refine ab_s rfl ?_
    refine ab_cv rfl rfl rfl hm rfl rfl (m_isLetting M I i f hi hf c) ?_
    refine z1_eq rfl rfl (fun h25 => ?_) (fun h25 => ?_)
    · refine ab_k (y := 0) rfl rfl ?_
      iterate 2 refine ab_s rfl ?_
      refine ab_ii rfl rfl rfl ?_
      refine ab_s rfl ?_
      exact ih _ (by first | (rw [← bs_succ_t (p := (fun h => letB s h f c)) h25]; rfl) | (rw [← bs_succ_f0 (p := (fun h => letB s h f c)) h25]; rfl))
    · refine ab_k (y := 1) rfl rfl ?_
      iterate 5 refine ab_s rfl ?_
      refine ab_ii rfl rfl rfl ?_
      refine ab_s rfl ?_
      exact ih _ (by first | (rw [← bs_succ_t (p := (fun h => letB s h f c)) h25]; rfl) | (rw [← bs_succ_f0 (p := (fun h => letB s h f c)) h25]; rfl))
  · obtain rfl := hJ
    iterate 2 refine ab_s rfl ?_
    refine ab_gf rfl rfl rfl hm hv ?_
    refine ab_k (y := 0) rfl rfl ?_
    refine ab_ia 0 rfl hs (by omega) rfl (by omega) ?_
    refine ab_t h0 ?_
    refine j2_ge rfl rfl (fun h13 => ?_) (fun h13 => absurd (nI_le (Nat.le_refl _) (by omega)) h13)
    refine ab_s rfl ?_
    exact ab_ri rfl rfl
theorem bs_or3 {p q : Nat → Bool} {m j : Nat} (hm : m ≤ 32) (hj : j + 1 < m) (h : ∀ i, i < m → q i = (p i || (decide (i = j) || decide (i = j + 1)))) : bs p m ||| (3 : Int32) <<< (nI j &&& 31) = bs q m := by
  apply b_ext
  intro i hi
  rw [b_or, bt_bs _ _ _ hm hi, bt_bs _ _ _ hm hi, b_shl j (by omega) 3 hi]
  have h3 : bt 3 (i - j) = (decide (i - j = 0) || decide (i - j = 1)) := (by decide +kernel : ∀ i, i < 32 → bt 3 i = (decide (i = 0) || decide (i = 1))) (i - j) (by omega)
  rw [h3]
  have e : (decide (j ≤ i) && (decide (i - j = 0) || decide (i - j = 1))) = (decide (i = j) || decide (i = j + 1)) := by
    rw [Bool.eq_iff_iff]
    simp only [Bool.and_eq_true, Bool.or_eq_true, decide_eq_true_eq]
    omega
  rw [e]
  by_cases h1 : i < m
  · rw [h i h1]
    simp [h1]
  · have a1 : ¬ i = j := by omega
    have a2 : ¬ i = j + 1 := by omega
    simp [h1, a1, a2]
set_option maxRecDepth 100000 in
set_option maxHeartbeats 4000000 in
theorem m_wakes (M : MS w s n) (h : Nat) (hh : h < 8) (c : Int32) : ab_M X kX6_wakes [.ref 54, .int (nI h), .int c] w (some (.int (wakeV s h c))) w := by
  obtain ⟨vs, hm, hv, hs, hl, h0, hn⟩ := id M
  show ab_G X kX6_wakes 0 [some (.ref 54), some (.int (nI h)), some (.int c), none, none] [] w _ _
  iterate 2 refine ab_s rfl ?_
  refine ab_k (y := 0) rfl rfl ?_
  refine ab_cv rfl rfl rfl hm rfl rfl (m_its M h 0 hh (by omega) rfl rfl) ?_
  iterate 2 refine ab_s rfl ?_
  refine ab_k (y := 21) rfl rfl ?_
  refine j2_gt rfl rfl (fun h10 => ?_) (fun h10 => ?_)
  · iterate 2 refine ab_s rfl ?_
    refine ab_k (y := 6) rfl rfl ?_
    refine ab_cv rfl rfl rfl hm rfl rfl (m_its M h 6 hh (by omega) rfl rfl) ?_
    iterate 3 refine ab_s rfl ?_
    refine ab_k (y := 3) rfl rfl ?_
    refine j2_ne rfl rfl (fun h34 => ?_) (fun h34 => ?_)
    · refine ab_s rfl ?_
      refine ab_k (y := 5) rfl rfl ?_
      refine j2_ne rfl rfl (fun h43 => ?_) (fun h43 => ?_)
      · refine ab_s rfl ?_
        exact ab_ri rfl (by unfold wakeV; first | (rw [if_neg (show ¬ (21 < c ∨ c < 6) from fun q => q.elim h10 (fun q => by rw [lt_iff] at q; rw [le_iff] at h16; omega))]; simp_all) | simp_all)
      · refine ab_s rfl ?_
        refine ab_k (y := 1) rfl rfl ?_
        iterate 2 refine ab_s rfl ?_
        exact ab_ri rfl (by unfold wakeV; first | (rw [if_neg (show ¬ (21 < c ∨ c < 6) from fun q => q.elim h10 (fun q => by rw [lt_iff] at q; rw [le_iff] at h16; omega))]; simp_all) | simp_all)
    · refine ab_k (y := 0) rfl rfl ?_
      refine ab_s rfl ?_
      exact ab_ri rfl (by unfold wakeV; first | (rw [if_neg (show ¬ (21 < c ∨ c < 6) from fun q => q.elim h10 (fun q => by rw [lt_iff] at q; rw [le_iff] at h16; omega))]; simp_all) | simp_all)
  · refine ab_s rfl ?_
    refine ab_k (y := 6) rfl rfl ?_
    refine j2_ge rfl rfl (fun h16 => ?_) (fun h16 => ?_)
    · refine ab_k (y := 0) rfl rfl ?_
      iterate 2 refine ab_s rfl ?_
      refine ab_k (y := 3) rfl rfl ?_
      refine j2_ne rfl rfl (fun h34 => ?_) (fun h34 => ?_)
      · refine ab_s rfl ?_
        refine ab_k (y := 5) rfl rfl ?_
        refine j2_ne rfl rfl (fun h43 => ?_) (fun h43 => ?_)
        · refine ab_s rfl ?_
          exact ab_ri rfl (by unfold wakeV; first | (rw [if_neg (show ¬ (21 < c ∨ c < 6) from fun q => q.elim h10 (fun q => by rw [lt_iff] at q; rw [le_iff] at h16; omega))]; simp_all) | simp_all)
        · refine ab_s rfl ?_
          refine ab_k (y := 1) rfl rfl ?_
          iterate 2 refine ab_s rfl ?_
          exact ab_ri rfl (by unfold wakeV; first | (rw [if_neg (show ¬ (21 < c ∨ c < 6) from fun q => q.elim h10 (fun q => by rw [lt_iff] at q; rw [le_iff] at h16; omega))]; simp_all) | simp_all)
      · refine ab_k (y := 0) rfl rfl ?_
        refine ab_s rfl ?_
        exact ab_ri rfl (by unfold wakeV; first | (rw [if_neg (show ¬ (21 < c ∨ c < 6) from fun q => q.elim h10 (fun q => by rw [lt_iff] at q; rw [le_iff] at h16; omega))]; simp_all) | simp_all)
    · iterate 2 refine ab_s rfl ?_
      refine ab_k (y := 6) rfl rfl ?_
      refine ab_cv rfl rfl rfl hm rfl rfl (m_its M h 6 hh (by omega) rfl rfl) ?_
      iterate 3 refine ab_s rfl ?_
      refine ab_k (y := 3) rfl rfl ?_
      refine j2_ne rfl rfl (fun h34 => ?_) (fun h34 => ?_)
      · refine ab_s rfl ?_
        refine ab_k (y := 5) rfl rfl ?_
        refine j2_ne rfl rfl (fun h43 => ?_) (fun h43 => ?_)
        · refine ab_s rfl ?_
          exact ab_ri rfl (by unfold wakeV; first | (rw [if_neg (show ¬ (21 < c ∨ c < 6) from fun q => q.elim h10 (fun q => by rw [lt_iff] at q; rw [le_iff] at h16; omega))]; simp_all) | simp_all)
        · refine ab_s rfl ?_
          refine ab_k (y := 1) rfl rfl ?_
          iterate 2 refine ab_s rfl ?_
          exact ab_ri rfl (by unfold wakeV; first | (rw [if_neg (show ¬ (21 < c ∨ c < 6) from fun q => q.elim h10 (fun q => by rw [lt_iff] at q; rw [le_iff] at h16; omega))]; simp_all) | simp_all)
      · refine ab_k (y := 0) rfl rfl ?_
        refine ab_s rfl ?_
        exact ab_ri rfl (by unfold wakeV; first | (rw [if_neg (show ¬ (21 < c ∨ c < 6) from fun q => q.elim h10 (fun q => by rw [lt_iff] at q; rw [le_iff] at h16; omega))]; simp_all) | simp_all)
set_option maxRecDepth 100000 in
set_option maxHeartbeats 4000000 in
theorem m_grounds (M : MS w s n)  : ab_M X kX6_grounds [.ref 54] w (some (.int (bs (gB n) 16))) w := by
  obtain ⟨vs, hm, hv, hs, hl, h0, hn⟩ := id M
  show ab_G X kX6_grounds 0 [some (.ref 54), none, none] [] w _ _
  refine ab_k (y := 0) rfl rfl ?_
  refine ab_s rfl ?_
  refine ab_k (y := 0) rfl rfl ?_
  refine ab_s rfl ?_
  refine g_loop0 n (fun i ls => ls = [some (.ref 54), some (.int (bs (gB i) 16)), some (.int (nI i))]) rfl (fun i ls hi hJ ih => ?_) (fun ls hJ => ?_)
  · obtain rfl := hJ
    iterate 2 refine ab_s rfl ?_
    refine ab_gf rfl rfl rfl hm hv ?_
    refine ab_k (y := 0) rfl rfl ?_
    refine ab_ia 0 rfl hs (by omega) rfl (by omega) ?_
    refine ab_t h0 ?_
    refine j2_ge rfl rfl (fun h11 => absurd h11 (nI_ge hi (by omega))) (fun h11 => ?_)
    refine ab_s rfl ?_
    refine ab_k (y := 1) rfl rfl ?_
    refine ab_k (y := 2) rfl rfl ?_
    refine ab_s rfl ?_
    refine ab_s rfl ?_
    refine ab_t (pk_mul 2 i) ?_
    iterate 3 refine ab_s rfl ?_
    refine ab_ii rfl rfl rfl ?_
    refine ab_s rfl ?_
    exact ih _ (by rw [← bs_or1 (p := gB i) (q := gB (i + 1)) (m := 16) (j := 2 * i) (by omega) (by omega) (fun r hr => by unfold gB; rw [Bool.eq_iff_iff]; simp only [Bool.and_eq_true, Bool.or_eq_true, decide_eq_true_eq]; omega)]; rfl)
  · obtain rfl := hJ
    iterate 2 refine ab_s rfl ?_
    refine ab_gf rfl rfl rfl hm hv ?_
    refine ab_k (y := 0) rfl rfl ?_
    refine ab_ia 0 rfl hs (by omega) rfl (by omega) ?_
    refine ab_t h0 ?_
    refine j2_ge rfl rfl (fun h11 => ?_) (fun h11 => absurd (nI_le (Nat.le_refl _) (by omega)) h11)
    refine ab_s rfl ?_
    exact ab_ri rfl rfl
theorem opB_t {i r : Nat} {f : Nat} {c : Int32} (h : letB s i f c = true) : opB s (i + 1) f c r = (opB s i f c r || (decide (r = 2 * i) || decide (r = 2 * i + 1))) := by
  unfold opB
  by_cases h1 : r / 2 = i
  · have : r = 2 * i ∨ r = 2 * i + 1 := by omega
    rw [h1, h]
    rcases this with e | e <;> simp [e]
  · have a1 : ¬ r = 2 * i := by omega
    have a2 : ¬ r = 2 * i + 1 := by omega
    have a3 : (r / 2 < i + 1) = (r / 2 < i) := propext ⟨fun _ => by omega, fun _ => by omega⟩
    simp [a1, a2, a3]
theorem opB_f {i r : Nat} {f : Nat} {c : Int32} (h : letB s i f c = false) : opB s (i + 1) f c r = opB s i f c r := by
  unfold opB
  by_cases h1 : r / 2 = i
  · rw [h1, h]; simp
  · have a3 : (r / 2 < i + 1) = (r / 2 < i) := propext ⟨fun _ => by omega, fun _ => by omega⟩
    simp [a3]
set_option maxRecDepth 100000 in
set_option maxHeartbeats 4000000 in
theorem m_openRooms (M : MS w s n) (I : SI s n) (f : Nat) (hf : f < 8) (c : Int32) : ab_M X kX6_openRooms [.ref 54, .int (nI f), .int c] w (some (.int (bs (opB s n f c) 16))) w := by
  obtain ⟨vs, hm, hv, hs, hl, h0, hn⟩ := id M
  show ab_G X kX6_openRooms 0 [some (.ref 54), some (.int (nI f)), some (.int c), none, none] [] w _ _
  refine ab_k (y := 0) rfl rfl ?_
  refine ab_s rfl ?_
  refine ab_k (y := 0) rfl rfl ?_
  refine ab_s rfl ?_
  refine g_loop0 n (fun i ls => ls = [some (.ref 54), some (.int (nI f)), some (.int c), some (.int (bs (opB s i f c) 16)), some (.int (nI i))]) (by rw [show bs (opB s 0 f c) 16 = 0 from (bs_zero (by omega)).mpr (fun r _ => by simp [opB])]; rfl) (fun i ls hi hJ ih => ?_) (fun ls hJ => ?_)
  · obtain rfl := hJ
    iterate 2 refine ab_s rfl ?_
    refine ab_gf rfl rfl rfl hm hv ?_
    refine ab_k (y := 0) rfl rfl ?_
    refine ab_ia 0 rfl hs (by omega) rfl (by omega) ?_
    refine ab_t h0 ?_
    refine j2_ge rfl rfl (fun h13 => absurd h13 (nI_ge hi (by omega))) (fun h13 => ?_)
    iterate 5 refine ab_s rfl ?_
    refine ab_cv rfl rfl rfl hm rfl rfl (m_isLetting M I i f hi hf c) ?_
    refine z1_eq rfl rfl (fun h25 => ?_) (fun h25 => ?_)
    · refine ab_k (y := 0) rfl rfl ?_
      iterate 2 refine ab_s rfl ?_
      refine ab_ii rfl rfl rfl ?_
      refine ab_s rfl ?_
      exact ih _ (by first | (rw [← bs_or3 (p := opB s i f c) (q := opB s (i + 1) f c) (m := 16) (j := 2 * i) (by omega) (by omega) (fun r _ => opB_t h25)]; rfl) | (rw [bs_cong (p := opB s (i + 1) f c) (q := opB s i f c) (fun r _ => opB_f h25), or_0]; rfl))
    · refine ab_k (y := 3) rfl rfl ?_
      refine ab_k (y := 2) rfl rfl ?_
      refine ab_s rfl ?_
      refine ab_s rfl ?_
      refine ab_t (pk_mul 2 i) ?_
      iterate 4 refine ab_s rfl ?_
      refine ab_ii rfl rfl rfl ?_
      refine ab_s rfl ?_
      exact ih _ (by first | (rw [← bs_or3 (p := opB s i f c) (q := opB s (i + 1) f c) (m := 16) (j := 2 * i) (by omega) (by omega) (fun r _ => opB_t h25)]; rfl) | (rw [bs_cong (p := opB s (i + 1) f c) (q := opB s i f c) (fun r _ => opB_f h25), or_0]; rfl))
  · obtain rfl := hJ
    iterate 2 refine ab_s rfl ?_
    refine ab_gf rfl rfl rfl hm hv ?_
    refine ab_k (y := 0) rfl rfl ?_
    refine ab_ia 0 rfl hs (by omega) rfl (by omega) ?_
    refine ab_t h0 ?_
    refine j2_ge rfl rfl (fun h13 => ?_) (fun h13 => absurd (nI_le (Nat.le_refl _) (by omega)) h13)
    refine ab_s rfl ?_
    exact ab_ri rfl rfl
end M3
