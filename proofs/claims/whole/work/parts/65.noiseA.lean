/-! NOISE, in both -/
/-- the wakes of a room, as a number -/
def wkN (s : List Int32) (n : Nat) (c : Int32) (r : Nat) : Nat := (wakR s n c r).toNatClampNeg
theorem wak_N {s : List Int32} {n : Nat} (I : SI s n) (c : Int32) (r : Nat) : wakR s n c r = nI (wkN s n c r) ∧ wkN s n c r ≤ 10 := by
  have key : ∃ k, k ≤ 10 ∧ wakR s n c r = nI k := by
    unfold wakR
    by_cases h : r / 2 < n ∧ r % 2 = 1
    · rw [if_pos h]
      obtain ⟨k, hk, e⟩ := (I.1 _ h.1).2.2.2.2.2.2.1
      unfold wakeV
      rw [e]
      split
      · exact ⟨0, by omega, rfl⟩
      · split
        · split
          · exact ⟨k + 1, by omega, nI_1 k⟩
          · exact ⟨1, by omega, rfl⟩
        · split
          · exact ⟨k, by omega, rfl⟩
          · exact ⟨0, by omega, rfl⟩
    · rw [if_neg h]
      exact ⟨0, by omega, rfl⟩
  obtain ⟨k, hk, e⟩ := key
  have e2 : wkN s n c r = k := by unfold wkN; rw [e]; exact nI_clamp (by omega)
  rw [e2]
  exact ⟨e, hk⟩
section NZ
variable (adj : Nat → Nat → Bool) (op : Nat → Bool) (wk : Nat → Nat)
/-- going on from the room r -/
def rlx (x : Nat → Nat) (r q : Nat) : Nat := if (adj r q && op q) = true ∧ x r + wk r < x q then x r + wk r else x q
def rlxN (x : Nat → Nat) : Nat → Nat → Nat
  | 0 => x
  | r + 1 => rlx adj op wk (rlxN x r) r
def psN (x : Nat → Nat) : Nat → Nat → Nat
  | 0 => x
  | k + 1 => rlxN adj op wk (psN x k) 16
end NZ
section NZ2
variable {adj : Nat → Nat → Bool} {op : Nat → Bool} {wk : Nat → Nat}
def cfN (x : Nat → Nat) : Nat := cntR (fun q => decide (x q < 999)) 16
def InvN (op : Nat → Bool) (x : Nat → Nat) : Prop := ∀ q, q < 16 → x q = 999 ∨ (op q = true ∧ x q ≤ 10 * cfN x)
theorem cf_le (x : Nat → Nat) : cfN x ≤ 16 := cntR_le _ _
theorem inv_le {x : Nat → Nat} (h : InvN op x) {q : Nat} (hq : q < 16) : x q = 999 ∨ (op q = true ∧ x q ≤ 160) := by
  have := cf_le x
  rcases h q hq with e | ⟨e1, e2⟩
  · exact Or.inl e
  · exact Or.inr ⟨e1, by omega⟩
theorem inv_rlx {x : Nat → Nat} (hw : ∀ r, wk r ≤ 10) (h : InvN op x) {r : Nat} (hr : r < 16) : InvN op (rlx adj op wk x r) := by
  have hsub : ∀ q, q < 16 → x q < 999 → rlx adj op wk x r q < 999 := fun q hq h1 => by
    unfold rlx
    split <;> omega
  have hc : cfN x ≤ cfN (rlx adj op wk x r) := cntR_sub (fun q hq h1 => decide_eq_true (hsub q hq (of_decide_eq_true h1)))
  intro q hq
  by_cases hcnd : (adj r q && op q) = true ∧ x r + wk r < x q
  · have e : rlx adj op wk x r q = x r + wk r := if_pos hcnd
    have hop : op q = true := by
      have := hcnd.1
      rw [Bool.and_eq_true] at this
      exact this.2
    have hxr := h r hr
    have hxq := h q hq
    have hcf := cf_le x
    have hwr := hw r
    right
    refine ⟨hop, ?_⟩
    rw [e]
    rcases hxq with e1 | ⟨_, e1⟩
    · have hlt : cfN x < cfN (rlx adj op wk x r) := cntR_lt (fun q hq h1 => decide_eq_true (hsub q hq (of_decide_eq_true h1))) hq (decide_eq_false (by omega)) (decide_eq_true (by rw [e]; omega))
      rcases hxr with e2 | ⟨_, e2⟩ <;> omega
    · omega
  · have e : rlx adj op wk x r q = x q := if_neg hcnd
    rw [e]
    exact (h q hq).imp id (fun t => ⟨t.1, by omega⟩)
theorem rlx_no {x : Nat → Nat} (h : InvN op x) {r : Nat} (hx : x r = 999) {q : Nat} (hq : q < 16) : rlx adj op wk x r q = x q := by
  unfold rlx
  rw [if_neg (fun t => by rcases inv_le h hq with e | ⟨_, e⟩ <;> omega)]
theorem inv_rlxN {x : Nat → Nat} (hw : ∀ r, wk r ≤ 10) (h : InvN op x) : ∀ {r : Nat}, r ≤ 16 → InvN op (rlxN adj op wk x r)
  | 0, _ => h
  | r + 1, hr => inv_rlx hw (inv_rlxN hw h (by omega)) (by omega)
theorem inv_ps {x : Nat → Nat} (hw : ∀ r, wk r ≤ 10) (h : InvN op x) : ∀ k, InvN op (psN adj op wk x k)
  | 0 => h
  | k + 1 => inv_rlxN hw (inv_ps hw h k) (Nat.le_refl _)
theorem rlx_cong {x y : Nat → Nat} (h : ∀ q, q < 16 → x q = y q) {r : Nat} (hr : r < 16) {q : Nat} (hq : q < 16) : rlx adj op wk x r q = rlx adj op wk y r q := by
  unfold rlx
  rw [h r hr, h q hq]
theorem rlxN_cong {x y : Nat → Nat} (h : ∀ q, q < 16 → x q = y q) : ∀ {r : Nat}, r ≤ 16 → ∀ q, q < 16 → rlxN adj op wk x r q = rlxN adj op wk y r q
  | 0, _, q, hq => h q hq
  | r + 1, hr, q, hq => rlx_cong (rlxN_cong h (r := r) (by omega)) (by omega) hq
/-- rooms that aren't open give nothing on -/
theorem rlxN_up {x : Nat → Nat} (hw : ∀ r, wk r ≤ 10) (h : InvN op x) {m : Nat} (hop : ∀ r, m ≤ r → op r = false) : ∀ d, m + d ≤ 16 → ∀ q, q < 16 → rlxN adj op wk x (m + d) q = rlxN adj op wk x m q
  | 0, _, q, _ => rfl
  | d + 1, hd, q, hq => by
    have hi := inv_rlxN (adj := adj) hw h (r := m + d) (by omega)
    have hx : rlxN adj op wk x (m + d) (m + d) = 999 := by
      rcases hi (m + d) (by omega) with e | ⟨e, _⟩
      · exact e
      · rw [hop _ (by omega)] at e; cases e
    show rlx adj op wk (rlxN adj op wk x (m + d)) (m + d) q = _
    rw [rlx_no hi hx hq]
    exact rlxN_up hw h hop d (by omega) q hq
theorem ps_stop {x : Nat → Nat} {k : Nat} (h : ∀ q, q < 16 → rlxN adj op wk (psN adj op wk x k) 16 q = psN adj op wk x k q) : ∀ d, ∀ q, q < 16 → psN adj op wk x (k + d) q = psN adj op wk x k q
  | 0, _, _ => rfl
  | d + 1, q, hq => by
    show rlxN adj op wk (psN adj op wk x (k + d)) 16 q = _
    rw [rlxN_cong (ps_stop h d) (Nat.le_refl 16) q hq]
    exact h q hq
end NZ2
/-- where all begin -/
def nz0 (s : List Int32) (n f : Nat) (c : Int32) (q : Nat) : Nat := if (gB n q && opB s n f c q) = true then 0 else 999
theorem nz0_inv (s : List Int32) (n f : Nat) (c : Int32) : InvN (opB s n f c) (nz0 s n f c) := by
  intro q _
  unfold nz0
  by_cases h : (gB n q && opB s n f c q) = true
  · rw [if_pos h]
    rw [Bool.and_eq_true] at h
    exact Or.inr ⟨h.2, by omega⟩
  · rw [if_neg h]
    exact Or.inl rfl
def noiN (s : List Int32) (n f : Nat) (c : Int32) : Nat → Nat → Nat := psN (adjB s n) (opB s n f c) (wkN s n c) (nz0 s n f c)
theorem noi_inv {s : List Int32} {n f : Nat} {c : Int32} (I : SI s n) (k : Nat) : InvN (opB s n f c) (noiN s n f c k) := inv_ps (fun r => (wak_N I c r).2) (nz0_inv s n f c) k
/-- the class's own number for it -/
def encI (v : Nat) : Int32 := if v = 999 then -1 else nI v
section NZX
variable {X : List Int32} {w w1 : ab_W} {r n : Nat} {s : List Int32} {adj : Nat → Nat → Bool} {op : Nat → Bool} {wk x : Nat → Nat}
def PlanN (w : ab_W) (adj : Nat → Nat → Bool) (wk x : Nat → Nat) : Prop := w[34]? = some (.inl (1, [.ref 35, .ref 36, .ref 37, .ref 38])) ∧ (∃ jo, w[35]? = some (.inr jo) ∧ jo.length = 16 ∧ ∀ r, r < 16 → jo.getD r 0 = bs (adj r) 16) ∧ (∃ wl, w[36]? = some (.inr wl) ∧ wl.length = 16 ∧ ∀ r, r < 16 → wl.getD r 0 = nI (wk r)) ∧ (∃ la, w[37]? = some (.inr la) ∧ la.length = 16) ∧ ∃ no, w[38]? = some (.inr no) ∧ no.length = 16 ∧ ∀ q, q < 16 → no.getD q 0 = encI (x q)
theorem PlanN.px (P : PlanN w adj wk x) : PlanX w := by
  obtain ⟨p0, ⟨jo, a1, a2, -⟩, ⟨wl, b1, b2, -⟩, p3, no, c1, c2, -⟩ := P
  exact ⟨p0, ⟨jo, a1, a2⟩, ⟨wl, b1, b2⟩, p3, no, c1, c2⟩
theorem PlanN.no (P : PlanN w adj wk x) {y : Nat → Nat} {no : List Int32} (h : w1[38]? = some (.inr no)) (hl : no.length = 16) (hg : ∀ q, q < 16 → no.getD q 0 = encI (y q)) (F : ∀ i, i ≠ 38 → w1[i]? = w[i]?) : PlanN w1 adj wk y := by
  obtain ⟨p0, ⟨jo, a1, a2⟩, ⟨wl, b1, b2⟩, ⟨la, c1, c2⟩, -⟩ := P
  exact ⟨(F _ (by decide)).trans p0, ⟨jo, (F _ (by decide)).trans a1, a2⟩, ⟨wl, (F _ (by decide)).trans b1, b2⟩, ⟨la, (F _ (by decide)).trans c1, c2⟩, no, h, hl, hg⟩
set_option maxRecDepth 100000 in
set_option maxHeartbeats 4000000 in
theorem x_listen (P : PlanJ w adj) (R : RowW w r s n) (hr : r + 11 ≤ 34) (I : SI s n) (c : Int32) : ab_Q X kX1_listen [.ref 34, .ref r, .int c] w (fun v w1 => v = none ∧ PlanJ w1 adj ∧ (∃ wl, w1[36]? = some (.inr wl) ∧ wl.length = 16 ∧ ∀ r, r < 16 → wl.getD r 0 = nI (wkN s n c r)) ∧ ∀ i, i ≠ 36 → w1[i]? = w[i]?) := by
  obtain ⟨p0, ⟨jo, p1, jl, hjo⟩, ⟨wl, p2, wll⟩, ⟨la, p3, ll⟩, ⟨no, p4, nl⟩⟩ := P
  show ab_H X kX1_listen 0 [some (.ref 34), some (.ref r), some (.int c), none] [] w _
  refine h_k (y := 0) rfl rfl ?_
  refine h_s rfl ?_
  refine h_loop0 16 (fun i ls v => ls = [some (.ref 34), some (.ref r), some (.int c), some (.int (nI i))] ∧ (∀ j, j ≠ 36 → v[j]? = w[j]?) ∧ ∃ wl, v[36]? = some (.inr wl) ∧ wl.length = 16 ∧ ∀ m, m < i → wl.getD m 0 = nI (wkN s n c m)) ⟨rfl, fun _ _ => rfl, wl, p2, wll, fun m hm => absurd hm (by omega)⟩ (fun i ls v hi hJ ih => ?_) (fun ls v hJ => ?_)
  · obtain ⟨rfl, F, wl, p2, wll, g⟩ := hJ
    have R1 := R.fr (w1 := v) (fun j h1 h2 => F j (by omega))
    have p0 := (F 34 (by decide)).trans p0
    have q0 := R1.1
    refine h_s rfl ?_
    refine h_k (y := 16) rfl rfl ?_
    refine hN_ge (b := 16) rfl rfl rfl rfl (by omega) (by omega) (fun h5 => absurd h5 (by omega)) (fun h5 => ?_)
    refine h_s rfl ?_
    refine h_gf rfl rfl rfl p0 rfl ?_
    iterate 4 refine h_s rfl ?_
    refine h_cv rfl rfl rfl q0 rfl rfl (x_wakesIn R1 hi c) ?_
    refine h_n (st2 := [_, _, _]) rfl ?_
    refine hq_c rfl (x_put p2 (by omega) (j := i) (by omega) _) (fun v2 w4 q4 => ?_)
    obtain ⟨rfl, e4, f4⟩ := q4
    refine h_n (st2 := []) rfl ?_
    refine h_ii rfl rfl rfl ?_
    refine h_s rfl ?_
    refine ih _ _ ⟨rfl, fun j hj => (f4 j hj).trans (F j hj), _, e4, by rw [List.length_set]; exact wll, fun m hm => ?_⟩
    rw [gD_set _ _ _ _ (by omega)]
    by_cases e : m = i
    · rw [if_pos e, e]
      exact (wak_N I c i).1
    · rw [if_neg e]
      exact g m (by omega)
  · obtain ⟨rfl, F, wl, p2, wll, g⟩ := hJ
    refine h_s rfl ?_
    refine h_k (y := 16) rfl rfl ?_
    refine hN_ge (b := 16) rfl rfl rfl rfl (by omega) (by omega) (fun h5 => ?_) (fun h5 => absurd (by omega) h5)
    exact h_r rfl ⟨rfl, ⟨(F _ (by decide)).trans p0, ⟨jo, (F _ (by decide)).trans p1, jl, hjo⟩, ⟨wl, p2, wll⟩, ⟨la, (F _ (by decide)).trans p3, ll⟩, ⟨no, (F _ (by decide)).trans p4, nl⟩⟩, ⟨wl, p2, wll, g⟩, F⟩
set_option maxRecDepth 100000 in
set_option maxHeartbeats 4000000 in
theorem x_goOnFrom (P : PlanN w adj wk x) (hw : ∀ r, wk r ≤ 10) (hx : InvN op x) {m : Nat} (hm : m < 16) : ab_Q X kX1_goOnFrom [.ref 34, .int (nI m), .int (bs op 16)] w (fun v w1 => (∃ b, v = some (.int (z01 b)) ∧ (b = false → ∀ q, q < 16 → rlx adj op wk x m q = x q)) ∧ PlanN w1 adj wk (rlx adj op wk x m) ∧ ∀ i, i ≠ 38 → w1[i]? = w[i]?) := by
  have P0 := P
  obtain ⟨p0, ⟨jo, p1, jl, hjo⟩, ⟨wl, p2, wll, hwl⟩, ⟨la, p3, ll⟩, ⟨no, p4, nl, hno⟩⟩ := P
  show ab_H X kX1_goOnFrom 0 [some (.ref 34), some (.int (nI m)), some (.int (bs op 16)), none, none, none, none, none] [] w _
  have hwm := hw m
  rcases inv_le hx hm with hxm | ⟨-, hxm⟩
  · have e1 : encI (x m) = -1 := by unfold encI; rw [if_pos hxm]
    refine h_s rfl ?_
    refine h_gf rfl rfl rfl p0 rfl ?_
    refine h_s rfl ?_
    refine h_c rfl (x_cell p4 (by omega) (j := m) (by omega)) ?_
    refine h_t ((hno m hm).trans e1) ?_
    refine h_n (st2 := [_]) rfl ?_
    refine h_k (y := (-1)) rfl rfl ?_
    refine h_s rfl ?_
    refine h_k (y := 0) rfl rfl ?_
    exact h_ri rfl rfl ⟨⟨false, rfl, fun _ q hq => rlx_no hx hxm hq⟩, P0.no p4 nl (fun q hq => by rw [rlx_no hx hxm hq]; exact hno q hq) (fun _ _ => rfl), fun _ _ => rfl⟩
  · have e1 : encI (x m) = nI (x m) := by unfold encI; rw [if_neg (by omega)]
    refine h_s rfl ?_
    refine h_gf rfl rfl rfl p0 rfl ?_
    refine h_s rfl ?_
    refine h_c rfl (x_cell p4 (by omega) (j := m) (by omega)) ?_
    refine h_t ((hno m hm).trans e1) ?_
    refine h_n (st2 := [_]) rfl ?_
    refine h_k (y := (-1)) rfl rfl ?_
    refine h2_ne rfl rfl (fun h9 => ?_) (fun h9 => absurd h9 (fun q => nI_pos (show x m < 2 ^ 31 by omega) (by rw [q]; decide)))
    refine h_s rfl ?_
    refine h_gf rfl rfl rfl p0 rfl ?_
    refine h_s rfl ?_
    refine h_c rfl (x_cell p4 (by omega) (j := m) (by omega)) ?_
    refine h_t ((hno m hm).trans e1) ?_
    refine h_n (st2 := [_]) rfl ?_
    refine h_s rfl ?_
    refine h_gf rfl rfl rfl p0 rfl ?_
    refine h_s rfl ?_
    refine h_c rfl (x_cell p2 (by omega) (j := m) (by omega)) ?_
    refine h_t (hwl m hm) ?_
    refine h_n (st2 := [_, _]) rfl ?_
    refine h_Nadd rfl rfl rfl ?_
    iterate 2 refine h_s rfl ?_
    refine h_gf rfl rfl rfl p0 rfl ?_
    refine h_s rfl ?_
    refine h_c rfl (x_cell p1 (by omega) (j := m) (by omega)) ?_
    refine h_t (hjo m hm) ?_
    refine h_n (st2 := [_]) rfl ?_
    refine h_s rfl ?_
    refine h_s rfl ?_
    refine h_t (bs_and (by omega)) ?_
    refine h_s rfl ?_
    refine h_k (y := 0) rfl rfl ?_
    refine h_s rfl ?_
    refine h_k (y := 0) rfl rfl ?_
    refine h_s rfl ?_
    refine h_loop0 16 (fun i ls v => (∃ b y, ls = [some (.ref 34), some (.int (nI m)), some (.int (bs op 16)), some (.int (nI (x m + wk m))), some (.int (bs (fun q => adj m q && op q) 16)), some (.int (z01 b)), some (.int (nI i)), y] ∧ (∀ j, j ≠ 38 → v[j]? = w[j]?) ∧ (∃ no, v[38]? = some (.inr no) ∧ no.length = 16 ∧ ∀ p, p < 16 → no.getD p 0 = encI (if p < i then rlx adj op wk x m p else x p)) ∧ (b = false → ∀ p, p < i → rlx adj op wk x m p = x p))) ⟨false, none, rfl, fun _ _ => rfl, ⟨no, p4, nl, fun p hp => by rw [if_neg (by omega)]; exact hno p hp⟩, fun _ p hp => absurd hp (by omega)⟩ (fun i ls v hi hJ ih => ?_) (fun ls v hJ => ?_)
    · obtain ⟨b, y, rfl, F, ⟨no, p4, nl, g⟩, hb⟩ := hJ
      have p0 := (F 34 (by decide)).trans p0
      have gi := g i hi
      rw [if_neg (show ¬ i < i by omega)] at gi
      have hxi := inv_le hx hi
      rcases hxi with hxi | ⟨-, hxi⟩
      · have e2 : encI (x i) = -1 := by unfold encI; rw [if_pos hxi]
        refine h_s rfl ?_
        refine h_k (y := 16) rfl rfl ?_
        refine hN_ge (b := 16) rfl rfl rfl rfl (by omega) (by omega) (fun h54 => absurd h54 (by omega)) (fun h54 => ?_)
        refine h_s rfl ?_
        refine h_gf rfl rfl rfl p0 rfl ?_
        refine h_s rfl ?_
        refine h_c rfl (x_cell p4 (by omega) (j := i) (by omega)) ?_
        refine h_t gi ?_
        refine h_n (st2 := [_]) rfl ?_
        iterate 3 refine h_s rfl ?_
        refine h_c rfl (x_isInB (fun q => adj m q && op q) (by decide) hi) ?_
        refine h_n (st2 := [_]) rfl ?_
        refine hz_eq rfl rfl (fun h75 => ?_) (fun h75 => ?_)
        · refine h_ii rfl rfl rfl ?_
          refine h_s rfl ?_
          have er : rlx adj op wk x m i = x i := if_neg (fun t => absurd t.1 (by rw [h75]; decide))
          refine ih _ _ ⟨b, some (.int (encI (x i))), rfl, F, ⟨no, p4, nl, fun p hp => ?_⟩, fun q p hp => ?_⟩
          · rw [g p hp]
            by_cases e : p = i
            · rw [if_neg (by omega), if_pos (by omega), e, er]
            · by_cases e3 : p < i
              · rw [if_pos e3, if_pos (by omega)]
              · rw [if_neg e3, if_neg (by omega)]
          · by_cases e : p = i
            · rw [e, er]
            · exact hb q p (by omega)
        · refine h_s rfl ?_
          refine h_k (y := (-1)) rfl rfl ?_
          refine h2_eq rfl rfl (fun h81 => ?_) (fun h81 => absurd (e2) h81)
          refine h_s rfl ?_
          refine h_gf rfl rfl rfl p0 rfl ?_
          iterate 2 refine h_s rfl ?_
          refine hq_c rfl (x_put p4 (by omega) (j := i) (by omega) _) (fun v2 w4 q4 => ?_)
          obtain ⟨rfl, e4, f4⟩ := q4
          refine h_n (st2 := []) rfl ?_
          refine h_k (y := 1) rfl rfl ?_
          refine h_s rfl ?_
          refine h_ii rfl rfl rfl ?_
          refine h_s rfl ?_
          have hcnd : (adj m i && op i) = true ∧ x m + wk m < x i := ⟨h75, by omega⟩
          have er : rlx adj op wk x m i = x m + wk m := if_pos hcnd
          refine ih _ _ ⟨true, some (.int (encI (x i))), rfl, fun j hj => (f4 j hj).trans (F j hj), ⟨_, e4, by rw [List.length_set]; exact nl, fun p hp => ?_⟩, fun q => by cases q⟩
          rw [gD_set _ _ _ _ (by omega)]
          by_cases e : p = i
          · rw [if_pos e, e, if_pos (by omega), er]
            unfold encI
            rw [if_neg (by omega)]
          · rw [if_neg e, g p hp]
            by_cases e3 : p < i
            · rw [if_pos e3, if_pos (by omega)]
            · rw [if_neg e3, if_neg (by omega)]
      · have e2 : encI (x i) = nI (x i) := by unfold encI; rw [if_neg (by omega)]
        refine h_s rfl ?_
        refine h_k (y := 16) rfl rfl ?_
        refine hN_ge (b := 16) rfl rfl rfl rfl (by omega) (by omega) (fun h54 => absurd h54 (by omega)) (fun h54 => ?_)
        refine h_s rfl ?_
        refine h_gf rfl rfl rfl p0 rfl ?_
        refine h_s rfl ?_
        refine h_c rfl (x_cell p4 (by omega) (j := i) (by omega)) ?_
        refine h_t gi ?_
        refine h_n (st2 := [_]) rfl ?_
        iterate 3 refine h_s rfl ?_
        refine h_c rfl (x_isInB (fun q => adj m q && op q) (by decide) hi) ?_
        refine h_n (st2 := [_]) rfl ?_
        refine hz_eq rfl rfl (fun h75 => ?_) (fun h75 => ?_)
        · refine h_ii rfl rfl rfl ?_
          refine h_s rfl ?_
          have er : rlx adj op wk x m i = x i := if_neg (fun t => absurd t.1 (by rw [h75]; decide))
          refine ih _ _ ⟨b, some (.int (encI (x i))), rfl, F, ⟨no, p4, nl, fun p hp => ?_⟩, fun q p hp => ?_⟩
          · rw [g p hp]
            by_cases e : p = i
            · rw [if_neg (by omega), if_pos (by omega), e, er]
            · by_cases e3 : p < i
              · rw [if_pos e3, if_pos (by omega)]
              · rw [if_neg e3, if_neg (by omega)]
          · by_cases e : p = i
            · rw [e, er]
            · exact hb q p (by omega)
        · refine h_s rfl ?_
          refine h_k (y := (-1)) rfl rfl ?_
          refine h2_eq rfl rfl (fun h81 => absurd h81 (fun q => nI_pos (show x i < 2 ^ 31 by omega) (by rw [← e2, q]; decide))) (fun h81 => ?_)
          iterate 2 refine h_s rfl ?_
          refine h2_le rfl rfl (fun h87 => ?_) (fun h87 => ?_)
          · refine h_ii rfl rfl rfl ?_
            refine h_s rfl ?_
            have er : rlx adj op wk x m i = x i := if_neg (fun t => by rw [e2, nd_le (by omega) (by omega)] at h87; exact absurd t.2 (by omega))
            refine ih _ _ ⟨b, some (.int (encI (x i))), rfl, F, ⟨no, p4, nl, fun p hp => ?_⟩, fun q p hp => ?_⟩
            · rw [g p hp]
              by_cases e : p = i
              · rw [if_neg (by omega), if_pos (by omega), e, er]
              · by_cases e3 : p < i
                · rw [if_pos e3, if_pos (by omega)]
                · rw [if_neg e3, if_neg (by omega)]
            · by_cases e : p = i
              · rw [e, er]
              · exact hb q p (by omega)
          · refine h_s rfl ?_
            refine h_gf rfl rfl rfl p0 rfl ?_
            iterate 2 refine h_s rfl ?_
            refine hq_c rfl (x_put p4 (by omega) (j := i) (by omega) _) (fun v2 w4 q4 => ?_)
            obtain ⟨rfl, e4, f4⟩ := q4
            refine h_n (st2 := []) rfl ?_
            refine h_k (y := 1) rfl rfl ?_
            refine h_s rfl ?_
            refine h_ii rfl rfl rfl ?_
            refine h_s rfl ?_
            have hcnd : (adj m i && op i) = true ∧ x m + wk m < x i := ⟨h75, by rw [e2, nd_le (by omega) (by omega)] at h87; omega⟩
            have er : rlx adj op wk x m i = x m + wk m := if_pos hcnd
            refine ih _ _ ⟨true, some (.int (encI (x i))), rfl, fun j hj => (f4 j hj).trans (F j hj), ⟨_, e4, by rw [List.length_set]; exact nl, fun p hp => ?_⟩, fun q => by cases q⟩
            rw [gD_set _ _ _ _ (by omega)]
            by_cases e : p = i
            · rw [if_pos e, e, if_pos (by omega), er]
              unfold encI
              rw [if_neg (by omega)]
            · rw [if_neg e, g p hp]
              by_cases e3 : p < i
              · rw [if_pos e3, if_pos (by omega)]
              · rw [if_neg e3, if_neg (by omega)]
    · obtain ⟨b, y, rfl, F, ⟨no, p4, nl, g⟩, hb⟩ := hJ
      refine h_s rfl ?_
      refine h_k (y := 16) rfl rfl ?_
      refine hN_ge (b := 16) rfl rfl rfl rfl (by omega) (by omega) (fun h54 => ?_) (fun h54 => absurd (by omega) h54)
      refine h_s rfl ?_
      exact ⟨_, _, ab_rz rfl rfl rfl, ⟨b, rfl, hb⟩, P0.no p4 nl (fun q hq => by rw [g q hq, if_pos hq]) F, F⟩
end NZX
