/-! STEP, in both -/
/-- the first of the first m, else m -/
def lst (p : Nat → Bool) : Nat → Nat
  | 0 => 0
  | m + 1 => if lst p m < m then lst p m else if p m = true then m else m + 1
theorem lst_le (p : Nat → Bool) : ∀ m, lst p m ≤ m
  | 0 => Nat.le_refl _
  | m + 1 => by
    rw [lst]
    have := lst_le p m
    split
    · omega
    · split <;> omega
theorem lst_no {p : Nat → Bool} : ∀ {m j : Nat}, j < lst p m → p j = false
  | 0, j, h => absurd h (by show ¬ j < 0; omega)
  | m + 1, j, h => by
    rw [lst] at h
    have hl := lst_le p m
    split at h
    · exact lst_no h
    · split at h
      · exact lst_no (m := m) (by omega)
      · rename_i h1 h2
        by_cases e : j = m
        · rw [e]; simpa using h2
        · exact lst_no (m := m) (by omega)
theorem lst_yes {p : Nat → Bool} : ∀ {m : Nat}, lst p m < m → p (lst p m) = true
  | 0, h => absurd h (by show ¬ lst p 0 < 0; omega)
  | m + 1, h => by
    have hl := lst_le p m
    rw [lst] at h ⊢
    by_cases h1 : lst p m < m
    · rw [if_pos h1]; exact lst_yes h1
    · rw [if_neg h1] at h ⊢
      by_cases h2 : p m = true
      · rw [if_pos h2]; exact h2
      · rw [if_neg h2] at h; omega
theorem lst_lt {p : Nat → Bool} {m j : Nat} (hj : j < m) (hp : p j = true) : lst p m ≤ j := by
  rcases Nat.lt_or_ge j (lst p m) with h | h
  · rw [lst_no h] at hp; cases hp
  · exact h
section STP
variable (adj : Nat → Nat → Bool) (op : Nat → Bool) (home : Nat)
/-- the rooms from which it is so far home -/
def lyB (d r : Nat) : Bool := wB adj op (fun y => decide (y = home)) (d + 1) r && !wB adj op (fun y => decide (y = home)) d r
def stR (L : Nat) : Nat → Nat
  | 0 => lst (fun r => evB r && lyB adj op home (L - 1) r) 16
  | k + 1 => lst (fun r => adj (stR L k) r && lyB adj op home (L - 1 - (k + 1)) r) 16
def nxR (L : Nat) : Nat → Nat → Bool
  | 0 => evB
  | k + 1 => adj (stR adj op home L k)
end STP
section STQ
variable {adj : Nat → Nat → Bool} {op : Nat → Bool} {home L : Nat}
theorem stR_e (k : Nat) : stR adj op home L k = lst (fun r => nxR adj op home L k r && lyB adj op home (L - 1 - k) r) 16 := by cases k <;> rfl
theorem ly_op {d r : Nat} (h : lyB adj op home d r = true) : op r = true := by
  unfold lyB at h
  rw [Bool.and_eq_true] at h
  exact wB_op h.1
/-- from a room one step nearer -/
theorem ly_next (hs : ∀ a b, a < 16 → b < 16 → adj a b = adj b a) (hh : home < 16) {d r : Nat} (hr : r < 16) (h : lyB adj op home (d + 1) r = true) : ∃ z, z < 16 ∧ adj r z = true ∧ lyB adj op home d z = true := by
  unfold lyB at h
  simp only [Bool.and_eq_true, Bool.not_eq_true'] at h
  have h1 : (op r && (decide (r = home) || anyR (fun z => wB adj op (fun y => decide (y = home)) (d + 1) z && adj z r) 16)) = true := h.1
  simp only [Bool.and_eq_true, Bool.or_eq_true, decide_eq_true_eq, anyR_iff] at h1
  obtain ⟨ho, h1⟩ := h1
  have hne : ¬ r = home := by
    rintro rfl
    have : wB adj op (fun y => decide (y = r)) (d + 1) r = true := by
      unfold wB
      simp [ho]
    rw [this] at h; exact absurd h.2 (by decide)
  obtain ⟨z, hz, h2, h3⟩ := h1.resolve_left hne
  refine ⟨z, hz, by rw [hs r z hr hz]; exact h3, ?_⟩
  unfold lyB
  rw [h2]
  cases h4 : wB adj op (fun y => decide (y = home)) d z with
  | false => rfl
  | true =>
    have : wB adj op (fun y => decide (y = home)) (d + 1) r = true := by
      unfold wB
      simp only [Bool.and_eq_true, Bool.or_eq_true, anyR_iff]
      exact ⟨ho, Or.inr ⟨z, hz, h4, h3⟩⟩
    rw [this] at h; exact absurd h.2 (by decide)
/-- how far it is home, by layers -/
theorem ly_way (hs : ∀ a b, a < 16 → b < 16 → adj a b = adj b a) (hh : home < 16) {d r : Nat} (hr : r < 16) : lyB adj op home d r = decide (wayL adj op (fun y => decide (y = r)) home = d + 1) := by
  rw [Bool.eq_iff_iff, decide_eq_true_eq]
  unfold lyB
  rw [wB_sym hs (d + 1) home r hh hr, wB_sym hs d home r hh hr]
  simp only [Bool.and_eq_true, Bool.not_eq_true']
  constructor
  · rintro ⟨h1, h2⟩
    refine isLen_inj (wayL_len hh) (Or.inr ⟨by omega, h1, fun j hj => ?_⟩)
    cases h3 : wB adj op (fun y => decide (y = r)) j home with
    | false => rfl
    | true => rw [wB_le (by omega) h3] at h2; cases h2
  · intro e
    rcases wayL_len (adj := adj) (op := op) (st := fun y => decide (y = r)) hh with ⟨h1, _⟩ | ⟨_, h2, h3⟩
    · omega
    · rw [e] at h2 h3
      exact ⟨h2, h3 d (by omega)⟩
theorem st_ok (hs : ∀ a b, a < 16 → b < 16 → adj a b = adj b a) (hh : home < 16) (hL : wayL adj op evB home = L) : ∀ k, k < L → stR adj op home L k < 16 ∧ nxR adj op home L k (stR adj op home L k) = true ∧ lyB adj op home (L - 1 - k) (stR adj op home L k) = true ∧ ∀ j, j < stR adj op home L k → (nxR adj op home L k j && lyB adj op home (L - 1 - k) j) = false := by
  have fin : ∀ k, (∃ z, z < 16 ∧ nxR adj op home L k z = true ∧ lyB adj op home (L - 1 - k) z = true) → stR adj op home L k < 16 ∧ nxR adj op home L k (stR adj op home L k) = true ∧ lyB adj op home (L - 1 - k) (stR adj op home L k) = true ∧ ∀ j, j < stR adj op home L k → (nxR adj op home L k j && lyB adj op home (L - 1 - k) j) = false := by
    rintro k ⟨z, hz, h1, h2⟩
    have hle : stR adj op home L k ≤ z := by rw [stR_e]; exact lst_lt hz (by rw [h1, h2]; rfl)
    have hy : (nxR adj op home L k (stR adj op home L k) && lyB adj op home (L - 1 - k) (stR adj op home L k)) = true := by
      rw [stR_e k]
      exact lst_yes (by rw [← stR_e (adj := adj) (op := op) (home := home) (L := L) k]; omega)
    rw [Bool.and_eq_true] at hy
    exact ⟨by omega, hy.1, hy.2, fun j hj => by rw [stR_e] at hj; exact lst_no hj⟩
  intro k
  induction k with
  | zero =>
    intro hk
    refine fin 0 ?_
    have h16 : ∀ i, evB i = true → i < 16 := fun i hi => by unfold evB at hi; simp at hi; exact hi.2
    rcases wayL_len (adj := adj) (op := op) (st := evB) hh with ⟨h1, _⟩ | ⟨h1, h2, h3⟩
    · omega
    · rw [hL] at h2 h3
      rw [wB_back hs h16 hh, anyR_iff] at h2
      obtain ⟨z, hz, h4⟩ := h2
      rw [Bool.and_eq_true] at h4
      refine ⟨z, hz, h4.1, ?_⟩
      unfold lyB
      rw [show L - 1 - 0 + 1 = L by omega, h4.2]
      cases h5 : wB adj op (fun y => decide (y = home)) (L - 1 - 0) z with
      | false => rfl
      | true =>
        have := h3 (L - 1 - 0) (by omega)
        rw [wB_back hs h16 hh, Bool.eq_false_iff, ne_eq, anyR_iff] at this
        exact absurd ⟨z, hz, by rw [h4.1, h5]; rfl⟩ this
  | succ k ih =>
    intro hk
    obtain ⟨i1, i2, i3, i4⟩ := ih (by omega)
    refine fin (k + 1) ?_
    rw [show L - 1 - k = (L - 1 - (k + 1)) + 1 by omega] at i3
    obtain ⟨z, hz, h1, h2⟩ := ly_next hs hh i1 i3
    exact ⟨z, hz, h1, h2⟩
end STQ
section STX
variable {X : List Int32} {w w1 : ab_W} {r : Nat} {s : List Int32} {n : Nat} {st ks : List Int32} {kp : Bool} {tp : List Int32} {tn : Nat} {bo so nu : List Int32}
set_option maxRecDepth 100000 in
set_option maxHeartbeats 4000000 in
theorem x_least (p : Nat → Bool) {k : Nat} (hk : k < 16) (h1 : p k = true) (h2 : ∀ j, j < k → p j = false) : ab_M X kX1_least [.int (bs p 16)] w (some (.int (nI k))) w := by
  show ab_G X kX1_least 0 [some (.int (bs p 16)), none] [] w _ _
  refine ab_k (y := 0) rfl rfl ?_
  refine ab_s rfl ?_
  refine g_loop0 k (fun i ls => ls = [some (.int (bs p 16)), some (.int (nI i))]) rfl (fun i ls hi hJ ih => ?_) (fun ls hJ => ?_)
  · obtain rfl := hJ
    refine ab_s rfl ?_
    refine ab_k (y := 16) rfl rfl ?_
    refine jN_ge (b := 16) rfl rfl rfl rfl (by omega) (by omega) (fun h5 => absurd h5 (by omega)) (fun h5 => ?_)
    iterate 2 refine ab_s rfl ?_
    refine ab_c rfl (x_isInB p (by decide) (show i < 16 by omega)) ?_
    refine ab_n (st2 := [_]) rfl ?_
    refine z1_eq rfl rfl (fun h13 => ?_) (fun h13 => absurd (show (true = false) from h13.symm.trans (show _ = false from h2 i hi)) (by decide))
    refine ab_ii rfl rfl rfl ?_
    refine ab_s rfl ?_
    exact ih _ rfl
  · obtain rfl := hJ
    refine ab_s rfl ?_
    refine ab_k (y := 16) rfl rfl ?_
    refine jN_ge (b := 16) rfl rfl rfl rfl (by omega) (by omega) (fun h5 => absurd h5 (by omega)) (fun h5 => ?_)
    iterate 2 refine ab_s rfl ?_
    refine ab_c rfl (x_isInB p (by decide) hk) ?_
    refine ab_n (st2 := [_]) rfl ?_
    refine z1_eq rfl rfl (fun h13 => absurd (show (true = false) from (show _ = true from h1).symm.trans h13) (by decide)) (fun h13 => ?_)
    refine ab_s rfl ?_
    exact ab_ri rfl rfl
set_option maxRecDepth 100000 in
set_option maxHeartbeats 4000000 in
theorem x_roomOnWay {adj : Nat → Nat → Bool} (P : PlanJ w adj) (hs : ∀ a b, a < 16 → b < 16 → adj a b = adj b a) (q : Nat → Bool) {room i : Nat} (hr : room < 16) (hi : i < 16) {L : Nat} (hL : wayL adj (fun r => q (r / 2)) evB room = L) : ab_Q X kX1_roomOnWay [.ref 34, .int (nI room), .int (bs q 8), .int (nI i)] w (fun v w1 => v = some (.int (if L ≤ i then -1 else nI (stR adj (fun r => q (r / 2)) room L i))) ∧ PlanJ w1 adj ∧ ∀ j, j ≠ 37 → w1[j]? = w[j]?) := by
  have hL16 : L ≤ 16 := by rw [← hL]; exact wayL_le _
  have p0 := P.1
  show ab_H X kX1_roomOnWay 0 [some (.ref 34), some (.int (nI room)), some (.int (bs q 8)), some (.int (nI i)), none, none, none, none] [] w _
  iterate 3 refine h_s rfl ?_
  refine hq_v rfl rfl rfl p0 rfl rfl (x_shortest P hs q hr) (fun v1 w1 q1 => ?_)
  obtain ⟨rfl, F, la, e1, ll, hla⟩ := q1
  rw [hL] at hla
  rw [hL]
  have P := P.la e1 ll F
  have p0 := P.1
  refine h_n (st2 := [_]) rfl ?_
  iterate 3 refine h_s rfl ?_
  refine hN_lt rfl rfl rfl rfl (by omega) (by omega) (fun h11 => ?_) (fun h11 => ?_)
  · refine h_k (y := 21845) rfl rfl ?_
    refine h_s rfl ?_
    refine h_k (y := (-1)) rfl rfl ?_
    refine h_s rfl ?_
    refine h_k (y := 0) rfl rfl ?_
    refine h_s rfl ?_
    have hlt : i < L := h11
    have ok := st_ok hs hr hL
    refine h_loop0 (i + 1) (fun k ls v => (∃ x6, ls = [some (.ref 34), some (.int (nI room)), some (.int (bs q 8)), some (.int (nI i)), some (.int (nI L)), some (.int (bs (nxR adj (fun r => q (r / 2)) room L k) 16)), some (.int x6), some (.int (nI k))] ∧ (0 < k → x6 = nI (stR adj (fun r => q (r / 2)) room L (k - 1)))) ∧ w1 = v) ⟨⟨-1, by rw [show bs (nxR adj (fun r => q (r / 2)) room L 0) 16 = 21845 from ev_21845.symm]; rfl, fun h => absurd h (by omega)⟩, rfl⟩ (fun k ls v hk hJ ih => ?_) (fun ls v hJ => ?_)
    · obtain ⟨⟨x6, rfl, -⟩, hv⟩ := hJ
      subst hv
      obtain ⟨k1, k2, k3, k4⟩ := ok k (by omega)
      obtain ⟨-, ⟨jo, p1, jl, hjo⟩, -⟩ := id P
      iterate 2 refine h_s rfl ?_
      refine hN_gt rfl rfl rfl rfl (by omega) (by omega) (fun h30 => absurd h30 (by omega)) (fun h30 => ?_)
      iterate 2 refine h_s rfl ?_
      refine h_gf rfl rfl rfl p0 rfl ?_
      refine h_s rfl ?_
      refine h_k (y := 1) rfl rfl ?_
      refine h_Nsub (b := 1) rfl rfl rfl (by omega) ?_
      refine h_s rfl ?_
      refine h_Nsub rfl rfl rfl (by omega) ?_
      refine h_c rfl (x_cell e1 (by omega) (j := L - 1 - k) (by omega)) ?_
      refine h_t (y := bs (lyB adj (fun r => q (r / 2)) room (L - 1 - k)) 16) (hla (L - 1 - k) (by omega)) ?_
      refine h_n (st2 := [_, _]) rfl ?_
      refine h_s rfl ?_
      refine h_t (bs_and (by decide)) ?_
      refine h_c rfl (x_least (fun r => nxR adj (fun r => q (r / 2)) room L k r && lyB adj (fun r => q (r / 2)) room (L - 1 - k) r) (k := (stR adj (fun r => q (r / 2)) room L k)) k1 (by rw [k2, k3]; rfl) k4) ?_
      refine h_n (st2 := [_]) rfl ?_
      iterate 2 refine h_s rfl ?_
      refine h_gf rfl rfl rfl p0 rfl ?_
      refine h_s rfl ?_
      refine h_c rfl (x_cell p1 (by omega) (j := (stR adj (fun r => q (r / 2)) room L k)) (by omega)) ?_
      refine h_t (hjo _ k1) ?_
      refine h_n (st2 := [_]) rfl ?_
      refine h_s rfl ?_
      refine h_ii rfl rfl rfl ?_
      refine h_s rfl ?_
      exact ih _ _ ⟨⟨_, rfl, fun _ => rfl⟩, rfl⟩
    · obtain ⟨⟨x6, rfl, h6⟩, hv⟩ := hJ
      subst hv
      have h6 := h6 (by omega)
      subst h6
      iterate 2 refine h_s rfl ?_
      refine hN_gt rfl rfl rfl rfl (by omega) (by omega) (fun h30 => ?_) (fun h30 => absurd (by omega) h30)
      refine h_s rfl ?_
      exact h_ri rfl (by rw [if_neg (by omega)]; rfl) ⟨rfl, P, F⟩
  · refine h_k (y := (-1)) rfl rfl ?_
    exact h_ri rfl (by rw [if_pos (by omega)]) ⟨rfl, P, F⟩
set_option maxRecDepth 100000 in
set_option maxHeartbeats 4000000 in
theorem x_step_k (R : XW w s n st ks kp tp tn bo so nu) (I : SI s n) (f c i : Nat) (hf : f < n) (hc : c < 24) (hi : i < 16) (L : Nat) (hL : wayF s n f (nI c) = L) : ab_Q X kX5_step [.ref 0, .int (nI f), .int (nI c), .int (nI i)] w (fun v w1 => if L ≤ i then XP w (-1000004) s n (bump st 3) ks kp tp tn bo so nu v w1 else XP w (nI (stR (adjB s n) (opB s n f (nI c)) (homeN s f) L i)) s n st ks kp tp tn bo so nu v w1) := by
  have R0 := R
  obtain ⟨x0, XR, ⟨sd, nd, XD⟩, ⟨sk, nk, XK, hkp⟩, XPl, XT, XS, x45, xl⟩ := R
  have r0 := XR.1
  have p0 := XPl.1
  have d0 := XD.1
  have hn : n ≤ 8 := XR.2.2.2.2.2.2.2
  have RC := R0
  have hh := homeN_lt I hn hf
  have hLe : wayL (adjB s n) (fun r => lqB s n f (nI c) (r / 2)) evB (homeN s f) = L := by
    rw [lq_op, way_ev hn]
    exact hL
  have hL16 : L ≤ 16 := by rw [← hL]; exact wayF_le ..
  show ab_H X kX5_step 0 [some (.ref 0), some (.int (nI f)), some (.int (nI c)), some (.int (nI i)), none] [] w _
  iterate 3 refine h_s rfl ?_
  refine h_cv rfl rfl rfl x0 rfl rfl (x_isVisit x0 XR (nI f) (nI c)) ?_
  refine h_t (y := 1) (by rw [inN_n (by omega) (by omega), inN_n (by omega) (by omega)]; rfl) ?_
  refine h_n (st2 := [_]) rfl ?_
  iterate 2 refine h_s rfl ?_
  refine h_k (y := 16) rfl rfl ?_
  refine h_c rfl (x_isBelow (nI i) 16 (by decide)) ?_
  refine h_t (y := 1) (by rw [inN_n (by decide) (by omega)]; rfl) ?_
  refine h_n (st2 := [_]) rfl ?_
  iterate 2 refine h_s rfl ?_
  refine h_gf rfl rfl rfl x0 rfl ?_
  refine h_s rfl ?_
  refine h_gf rfl rfl rfl x0 rfl ?_
  refine hq_v rfl rfl rfl p0 rfl rfl (x_draw XPl XR I (by omega)) (fun v1 w1 q1 => ?_)
  obtain ⟨rfl, PJ, f1⟩ := q1
  have G : ∀ i, (i < 34 ∨ 39 ≤ i) → w1[i]? = w[i]? := fun i hi => f1 i (by omega)
  have x0 := (G 0 (by decide)).trans x0
  have XR := XR.fr (w1 := w1) (fun i _ _ => G i (by omega))
  have r0 := XR.1
  have p0 := PJ.1
  refine h_n (st2 := []) rfl ?_
  refine h_s rfl ?_
  refine h_gf rfl rfl rfl x0 rfl ?_
  refine h_s rfl ?_
  refine h_gf rfl rfl rfl x0 rfl ?_
  refine h_s rfl ?_
  refine h_cv rfl rfl rfl r0 rfl rfl (x_homeOf XR I hf) ?_
  refine h_n (st2 := [_, _]) rfl ?_
  refine h_s rfl ?_
  refine h_gf rfl rfl rfl x0 rfl ?_
  iterate 2 refine h_s rfl ?_
  refine h_k (y := 0) rfl rfl ?_
  refine h_k (y := 0) rfl rfl ?_
  refine h_cv rfl rfl rfl r0 rfl rfl (x_lett XR I (show f < 8 by omega) (nI c)) ?_
  refine h_n (st2 := [_, _, _]) rfl ?_
  refine h_s rfl ?_
  refine hq_v rfl rfl rfl p0 rfl rfl (x_roomOnWay PJ (adj_s s n) (lqB s n f (nI c)) (room := homeN s f) (i := i) (by omega) hi hLe) (fun v2 w2 q2 => ?_)
  obtain ⟨rfl, PJ, f2⟩ := q2
  have G : ∀ i, (i < 34 ∨ 39 ≤ i) → w2[i]? = w[i]? := fun i hi => (f2 i (by omega)).trans (G i hi)
  have x0 := (f2 0 (by decide)).trans x0
  have XR := XR.fr (w1 := w2) (fun i _ _ => f2 i (by omega))
  have r0 := XR.1
  have p0 := PJ.1
  refine h_n (st2 := [_]) rfl ?_
  iterate 2 refine h_s rfl ?_
  refine h1_ge rfl rfl (fun h67 => ?_) (fun h67 => ?_)
  · refine h_s rfl ?_
    have hlt : ¬ L ≤ i := fun q => by
      rw [if_pos q] at h67
      exact absurd h67 (by decide)
    rw [if_neg hlt]
    refine h_ri rfl rfl ?_
    rw [if_neg hlt]
    exact ⟨rfl, R0.plan PJ.x G, fun i hi => G i (by omega)⟩
  · refine h_s rfl ?_
    refine h_k (y := (-1000004)) rfl rfl ?_
    have RC := R0.plan PJ.x G
    refine hq_v rfl rfl rfl x0 rfl rfl (x_found RC 3 (by omega) _ (by decide)) (fun v9 w9 q9 => ?_)
    obtain ⟨rfl, q2, q3⟩ := q9
    refine h_n (st2 := [_]) rfl ?_
    refine h_s rfl ?_
    have hle : L ≤ i := by
      rcases Nat.lt_or_ge i L with q | q
      · exfalso
        apply h67
        rw [if_neg (by omega)]
        have h16 := (st_ok (adj_s s n) (by omega) hLe i q).1
        exact nI_pos' (by omega)
      · exact q
    refine h_ri rfl rfl ?_
    rw [if_pos hle]
    exact ⟨rfl, q2, fun i hi => (q3 i hi).trans (G i (by omega))⟩
end STX
section STM
variable {X : List Int32} {w w1 : ab_W} {s : List Int32} {n : Nat} {st ks : List Int32} {kp : Bool} {tp : List Int32} {tn : Nat} {bo so nu : List Int32}
theorem m_in16 (x : Nat) (hx : x < 16) : ab_M X kX6_in [.long (nI x).toInt64, .long 0, .long 15] w (some (.int 1)) w := m_in1 (lo := 0) (hi := 15) rfl rfl (by rw [nI_toInt (by omega)]; omega)
def nxM (s : List Int32) (n f : Nat) (c : Int32) (L : Nat) : Nat → Nat → Bool
  | 0 => gB n
  | k + 1 => adjB s n (stR (adjB s n) (opB s n f c) (homeN s f) L k)
set_option maxRecDepth 100000 in
set_option maxHeartbeats 4000000 in
theorem m_step_k (R : MW w s n st ks kp tp tn bo so nu) (I : SI s n) (f c i : Nat) (hf : f < n) (hc : c < 24) (hi : i < 16) (L : Nat) (hL : wayF s n f (nI c) = L) : ab_Q X kX6_step [.ref 54, .int (nI f), .int (nI c), .int (nI i)] w (fun v w1 => if L ≤ i then MP w (-1000004) s n (bump st 3) ks kp tp tn bo so nu v w1 else MP w (nI (stR (adjB s n) (opB s n f (nI c)) (homeN s f) L i)) s n st ks kp tp tn bo so nu v w1) := by
  have M := R.ms
  have R0 := R
  have RC := R0
  obtain ⟨oth, nz, mv, fr, to, vl, wr, a54, a55, a56, a57, a58, a59, a60, a61, a62, a63, a64, l, h0, hn, ht⟩ := R
  show ab_H X kX6_step 0 [some (.ref 54), some (.int (nI f)), some (.int (nI c)), some (.int (nI i)), none, none, none, none, none, none] [] w _
  have hh := homeN_lt I hn hf
  have hLe : wayL (adjB s n) (opB s n f (nI c)) evB (homeN s f) = L := by
    rw [way_ev hn]
    exact hL
  have hL16 : L ≤ 16 := by rw [← hL]; exact wayF_le ..
  iterate 3 refine h_s rfl ?_
  refine h_cv rfl rfl rfl a54 rfl rfl (m_isAsk1 M ⟨f, by omega, rfl⟩ ⟨c, by omega, rfl⟩) ?_
  refine h_n (st2 := [_]) rfl ?_
  iterate 5 refine h_s rfl ?_
  refine h_c rfl (m_in16 i hi) ?_
  refine h_n (st2 := [_]) rfl ?_
  iterate 4 refine h_s rfl ?_
  refine h_cv rfl rfl rfl a54 rfl rfl (m_openRooms M I f (by omega) (nI c)) ?_
  refine h_n (st2 := [_]) rfl ?_
  iterate 3 refine h_s rfl ?_
  refine h_cv rfl rfl rfl a54 rfl rfl (m_homeOf M I f hf) ?_
  refine h_n (st2 := [_]) rfl ?_
  iterate 3 refine h_s rfl ?_
  refine h_cv rfl rfl rfl a54 rfl rfl (m_grounds M) ?_
  refine h_n (st2 := [_, _]) rfl ?_
  iterate 2 refine h_s rfl ?_
  refine h_cv rfl rfl rfl a54 rfl rfl (m_lengthOf M I (gB n) (opB s n f (nI c)) (fun r _ => opB_lt) (homeN s f) (by omega)) ?_
  refine h_t (y := nI L) (by rw [← hL]; rfl) ?_
  refine h_n (st2 := [_]) rfl ?_
  iterate 3 refine h_s rfl ?_
  refine hN_lt rfl rfl rfl rfl (by omega) (by omega) (fun h60 => ?_) (fun h60 => ?_)
  · refine h_s rfl ?_
    refine h_cv rfl rfl rfl a54 rfl rfl (m_grounds M) ?_
    refine h_n (st2 := [_]) rfl ?_
    refine h_s rfl ?_
    refine h_k (y := (-1)) rfl rfl ?_
    refine h_s rfl ?_
    refine h_k (y := 0) rfl rfl ?_
    refine h_s rfl ?_
    have hlt : i < L := h60
    have ok := st_ok (adj_s s n) (show homeN s f < 16 by omega) hLe
    refine h_loop0 (i + 1) (fun k ls v => (∃ x8, ls = [some (.ref 54), some (.int (nI f)), some (.int (nI c)), some (.int (nI i)), some (.int (bs (opB s n f (nI c)) 16)), some (.int (nI (homeN s f))), some (.int (nI (L - k))), some (.int (bs (nxM s n f (nI c) L k) 16)), some (.int x8), some (.int (nI k))] ∧ (0 < k → x8 = nI (stR (adjB s n) (opB s n f (nI c)) (homeN s f) L (k - 1)))) ∧ w = v) ⟨⟨-1, rfl, fun h => absurd h (by omega)⟩, rfl⟩ (fun k ls v hk hJ ih => ?_) (fun ls v hJ => ?_)
    · obtain ⟨⟨x8, rfl, -⟩, hv⟩ := hJ
      subst hv
      obtain ⟨k1, k2, k3, k4⟩ := ok k (by omega)
      obtain ⟨R, hR⟩ : ∃ R, (stR (adjB s n) (opB s n f (nI c)) (homeN s f) L k) = R := ⟨_, rfl⟩
      rw [hR] at k1 k2 k3 k4
      have hopR := ly_op k3
      have hRn := opB_lt hopR
      have hnx : nxM s n f (nI c) L k R = true := by
        cases k with
        | zero => show gB n R = true; rw [← ev_gB hn (by omega)]; exact k2
        | succ k => exact k2
      obtain ⟨j0, hj0⟩ : ∃ j0, lst (nxM s n f (nI c) L k) 16 = j0 := ⟨_, rfl⟩
      have hjR : j0 ≤ R := by rw [← hj0]; exact lst_lt k1 hnx
      have hj1 : nxM s n f (nI c) L k j0 = true := by
        rw [← hj0]; exact lst_yes (by omega)
      have hj2 : ∀ j, j < j0 → nxM s n f (nI c) L k j = false := fun j hj => by rw [← hj0] at hj; exact lst_no hj
      iterate 2 refine h_s rfl ?_
      refine hN_gt rfl rfl rfl rfl (by omega) (by omega) (fun h85 => absurd h85 (by omega)) (fun h85 => ?_)
      refine h_s rfl ?_
      refine h_c rfl (m_lowest _ j0 (by omega) (by rw [bt_bs _ _ _ (by decide) (by omega), hj1, decide_eq_true (by omega)]; rfl) (fun j hj => by rw [bt_bs _ _ _ (by decide) (by omega), hj2 j hj, Bool.and_false])) ?_
      refine h_n (st2 := [_]) rfl ?_
      refine h_s rfl ?_
      refine h_loop0 (R - j0) (fun t ls v => ls = [some (.ref 54), some (.int (nI f)), some (.int (nI c)), some (.int (nI i)), some (.int (bs (opB s n f (nI c)) 16)), some (.int (nI (homeN s f))), some (.int (nI (L - k))), some (.int (bs (nxM s n f (nI c) L k) 16)), some (.int (nI (j0 + t))), some (.int (nI k))] ∧ w = v) ⟨rfl, rfl⟩ (fun t ls v ht hJ ih2 => ?_) (fun ls v hJ => ?_)
      · obtain ⟨rfl, hv⟩ := hJ
        subst hv
        obtain ⟨r, hr⟩ : ∃ r, j0 + t = r := ⟨_, rfl⟩
        have hrR : r < R := by omega
        rw [hr]
        iterate 2 refine h_s rfl ?_
        refine h_c rfl (m_has r (by omega)) ?_
        refine h_t (y := z01 ((opB s n f (nI c)) r)) (by rw [bt_bs _ _ _ (by decide) (by omega), decide_eq_true (by omega), Bool.true_and]) ?_
        refine h_n (st2 := [_]) rfl ?_
        refine hz_eq rfl rfl (fun h102 => ?_) (fun h102 => ?_)
        · refine h_ii rfl rfl rfl ?_
          refine h_s rfl ?_
          exact ih2 _ _ ⟨by rw [show j0 + (t + 1) = r + 1 by omega]; rfl, rfl⟩
        · iterate 2 refine h_s rfl ?_
          refine h_c rfl (m_has r (by omega)) ?_
          refine h_t (y := z01 (nxM s n f (nI c) L k r)) (by rw [bt_bs _ _ _ (by decide) (by omega), decide_eq_true (by omega), Bool.true_and]) ?_
          refine h_n (st2 := [_]) rfl ?_
          refine hz_eq rfl rfl (fun h112 => ?_) (fun h112 => ?_)
          · refine h_ii rfl rfl rfl ?_
            refine h_s rfl ?_
            exact ih2 _ _ ⟨by rw [show j0 + (t + 1) = r + 1 by omega]; rfl, rfl⟩
          · refine h_s rfl ?_
            refine h_k (y := 1) rfl rfl ?_
            refine h_s rfl ?_
            refine h_s rfl ?_
            refine h_t (y := bs (fun y => decide (y = r)) 16) (by apply b_ext; intro y hy; rw [b_sh (by omega) hy, bt_bs _ _ _ (by decide) hy]; by_cases e : y = r <;> simp [e]; omega) ?_
            iterate 2 refine h_s rfl ?_
            refine h_cv rfl rfl rfl a54 rfl rfl (m_lengthOf M I (fun y => decide (y = r)) (opB s n f (nI c)) (fun r _ => opB_lt) (homeN s f) (by omega)) ?_
            obtain ⟨D, hD⟩ : ∃ D, wayL (adjB s n) (opB s n f (nI c)) (fun y => decide (y = r)) (homeN s f) = D := ⟨_, rfl⟩
            have hD16 : D ≤ 16 := by rw [← hD]; exact wayL_le _
            rw [hD]
            refine h_n (st2 := [_]) rfl ?_
            refine h_s rfl ?_
            refine hN_eq rfl rfl rfl rfl (by omega) (by omega) (fun h129 => absurd h129 (fun q => by
              have hnr := k4 r hrR
              have hnx2 : nxR (adjB s n) (opB s n f (nI c)) (homeN s f) L k r = true := by
                cases k with
                | zero =>
                  have hg : gB n r = true := h112
                  show evB r = true
                  rw [ev_gB hn (by unfold gB at hg; simp at hg; exact hg.2)]
                  exact hg
                | succ k => exact h112
              rw [hnx2, ly_way (adj_s s n) (by omega) (by omega), hD, decide_eq_true (by omega)] at hnr
              cases hnr)) (fun h129 => ?_)
            refine h_ii rfl rfl rfl ?_
            refine h_s rfl ?_
            exact ih2 _ _ ⟨by rw [show j0 + (t + 1) = r + 1 by omega]; rfl, rfl⟩
      · obtain ⟨rfl, hv⟩ := hJ
        subst hv
        rw [show j0 + (R - j0) = R by omega]
        have hDR : wayL (adjB s n) (opB s n f (nI c)) (fun y => decide (y = R)) (homeN s f) = L - k := by
          have h9 := k3
          rw [ly_way (adj_s s n) (by omega) k1, decide_eq_true_eq] at h9
          omega
        iterate 2 refine h_s rfl ?_
        refine h_c rfl (m_has R (by omega)) ?_
        refine h_t (y := z01 ((opB s n f (nI c)) R)) (by rw [bt_bs _ _ _ (by decide) (by omega), decide_eq_true (by omega), Bool.true_and]) ?_
        refine h_n (st2 := [_]) rfl ?_
        refine hz_eq rfl rfl (fun h102 => absurd (show (true = false) from (show _ = true from hopR).symm.trans h102) (by decide)) (fun h102 => ?_)
        iterate 2 refine h_s rfl ?_
        refine h_c rfl (m_has R (by omega)) ?_
        refine h_t (y := z01 (nxM s n f (nI c) L k R)) (by rw [bt_bs _ _ _ (by decide) (by omega), decide_eq_true (by omega), Bool.true_and]) ?_
        refine h_n (st2 := [_]) rfl ?_
        refine hz_eq rfl rfl (fun h112 => absurd (show (true = false) from (show _ = true from hnx).symm.trans h112) (by decide)) (fun h112 => ?_)
        refine h_s rfl ?_
        refine h_k (y := 1) rfl rfl ?_
        refine h_s rfl ?_
        refine h_s rfl ?_
        refine h_t (y := bs (fun y => decide (y = R)) 16) (by apply b_ext; intro y hy; rw [b_sh (by omega) hy, bt_bs _ _ _ (by decide) hy]; by_cases e : y = R <;> simp [e]; omega) ?_
        iterate 2 refine h_s rfl ?_
        refine h_cv rfl rfl rfl a54 rfl rfl (m_lengthOf M I (fun y => decide (y = R)) (opB s n f (nI c)) (fun r _ => opB_lt) (homeN s f) (by omega)) ?_
        obtain ⟨D, hD⟩ : ∃ D, wayL (adjB s n) (opB s n f (nI c)) (fun y => decide (y = R)) (homeN s f) = D := ⟨_, rfl⟩
        have hD16 : D ≤ 16 := by rw [← hD]; exact wayL_le _
        rw [hD]
        refine h_n (st2 := [_]) rfl ?_
        refine h_s rfl ?_
        refine hN_eq rfl rfl rfl rfl (by omega) (by omega) (fun h129 => ?_) (fun h129 => absurd (by omega) h129)
        iterate 2 refine h_s rfl ?_
        refine h_cv rfl rfl rfl a54 rfl rfl (m_joinedTo M I R hRn) ?_
        refine h_n (st2 := [_]) rfl ?_
        refine h_s rfl ?_
        have e5 : nI (L - k) + Int32.ofInt (-1) = nI (L - (k + 1)) := by rw [show L - k = (L - (k + 1)) + 1 by omega]; exact pk_m1 _
        refine h_s rfl ?_
        refine h_ii rfl rfl rfl ?_
        refine h_s rfl ?_
        refine ih _ _ ⟨⟨nI R, ?_, fun _ => by rw [show k + 1 - 1 = k by omega, hR]⟩, rfl⟩
        rw [← e5, show nxM s n f (nI c) L (k + 1) = adjB s n R from by show adjB s n (stR _ _ _ _ _) = _; rw [hR]]
        rfl
    · obtain ⟨⟨x8, rfl, h8⟩, hv⟩ := hJ
      subst hv
      have h8 := h8 (by omega)
      subst h8
      iterate 2 refine h_s rfl ?_
      refine hN_gt rfl rfl rfl rfl (by omega) (by omega) (fun h85 => ?_) (fun h85 => absurd (by omega) h85)
      refine h_s rfl ?_
      refine h_ri rfl rfl ?_
      rw [if_neg (by omega)]
      exact MP.same R0 _
  · refine h_s rfl ?_
    refine h_k (y := (-1000004)) rfl rfl ?_
    refine hq_v rfl rfl rfl a54 rfl rfl (m_finds RC 3 (by omega) _ (by decide)) (fun v9 w9 q9 => ?_)
    obtain ⟨rfl, q2, q3⟩ := q9
    refine h_n (st2 := [_]) rfl ?_
    refine h_ri rfl rfl ?_
    rw [if_pos (by omega)]
    exact ⟨rfl, q2, q3⟩
end STM
