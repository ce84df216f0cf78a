/-! THE CLASS: the plan; reaching, shortest ways -/
/-- the ground rooms -/
def evB (i : Nat) : Bool := decide (i % 2 = 0) && decide (i < 16)
theorem ev_21845 : (21845 : Int32) = bs evB 16 := by decide +kernel
theorem wB_cong {adj : Nat → Nat → Bool} {op st st' : Nat → Bool} (h : ∀ i, op i = true → st i = st' i) : ∀ k i, wB adj op st k i = wB adj op st' k i
  | 0, _ => rfl
  | k + 1, i => by
    unfold wB
    rw [anyR_cong (fun r _ => by rw [wB_cong h k r])]
    cases ho : op i with
    | true => rw [h i ho]
    | false => rfl
theorem lenR_cong {B B' : Nat → Nat → Bool} {room : Nat} (h : ∀ d, B d room = B' d room) : ∀ m, lenR B room m = lenR B' room m
  | 0 => rfl
  | m + 1 => by rw [lenR, lenR, lenR_cong h m, h]
theorem wayL_cong {adj : Nat → Nat → Bool} {op st st' : Nat → Bool} (room : Nat) (h : ∀ i, op i = true → st i = st' i) : wayL adj op st room = wayL adj op st' room := lenR_cong (fun d => wB_cong h d room) 16
section WS
variable {adj : Nat → Nat → Bool} {op : Nat → Bool} {room : Nat}
theorem short0 (hs : ∀ a b, a < 16 → b < 16 → adj a b = adj b a) (hr : room < 16) {k : Nat} (hE : ∀ i, i < 16 → evB i = true → wB adj op (fun i => decide (i = room)) k i = false) (hf : ∀ m, k ≤ m → ∀ i, i < 16 → wB adj op (fun i => decide (i = room)) m i = wB adj op (fun i => decide (i = room)) k i) : wayL adj op evB room = 0 := by
  refine isLen_inj (wayL_len hr) (Or.inl ⟨rfl, fun m => ?_⟩)
  rw [wB_back hs (fun i hi => by unfold evB at hi; simp at hi; exact hi.2) hr, Bool.eq_false_iff, ne_eq, anyR_iff]
  rintro ⟨x, hx, h⟩
  simp only [Bool.and_eq_true] at h
  have h1 := hE x hx h.1
  by_cases hm : k ≤ m
  · rw [hf m hm x hx, h1] at h
    exact absurd h.2 (by decide)
  · rw [wB_le (by omega) h.2] at h1
    cases h1
theorem short1 (hs : ∀ a b, a < 16 → b < 16 → adj a b = adj b a) (hr : room < 16) {k i : Nat} (hE : ∀ i, i < 16 → evB i = true → wB adj op (fun i => decide (i = room)) k i = false) (hi : i < 16) (h1 : evB i = true) (h2 : wB adj op (fun i => decide (i = room)) (k + 1) i = true) : wayL adj op evB room = k + 1 := by
  have h16 : ∀ i, evB i = true → i < 16 := fun i hi => by unfold evB at hi; simp at hi; exact hi.2
  refine isLen_inj (wayL_len hr) (Or.inr ⟨by omega, ?_, fun j hj => ?_⟩)
  · rw [wB_back hs h16 hr, anyR_iff]
    exact ⟨i, hi, by rw [h1, h2]; rfl⟩
  · rw [wB_back hs h16 hr, Bool.eq_false_iff, ne_eq, anyR_iff]
    rintro ⟨x, hx, h⟩
    simp only [Bool.and_eq_true] at h
    have h3 := hE x hx h.1
    rw [wB_le (by omega) h.2] at h3
    cases h3
theorem bs_nz {p : Nat → Bool} {m : Nat} (hm : m ≤ 32) (h : ¬ bs p m = 0) : ∃ i, i < m ∧ p i = true := by
  rw [bs_zero hm] at h
  obtain ⟨i, h1⟩ := Classical.not_forall.mp h
  obtain ⟨h2, h3⟩ := Classical.not_imp.mp h1
  exact ⟨i, h2, by simpa using h3⟩
end WS
/-- the plan, drawn for adj -/
def PlanJ (w : ab_W) (adj : Nat → Nat → Bool) : Prop := w[34]? = some (.inl (1, [.ref 35, .ref 36, .ref 37, .ref 38])) ∧ (∃ jo, w[35]? = some (.inr jo) ∧ jo.length = 16 ∧ ∀ r, r < 16 → jo.getD r 0 = bs (adj r) 16) ∧ (∃ wk, w[36]? = some (.inr wk) ∧ wk.length = 16) ∧ (∃ la, w[37]? = some (.inr la) ∧ la.length = 16) ∧ ∃ no, w[38]? = some (.inr no) ∧ no.length = 16
def PlanX (w : ab_W) : Prop := w[34]? = some (.inl (1, [.ref 35, .ref 36, .ref 37, .ref 38])) ∧ (∃ jo, w[35]? = some (.inr jo) ∧ jo.length = 16) ∧ (∃ wk, w[36]? = some (.inr wk) ∧ wk.length = 16) ∧ (∃ la, w[37]? = some (.inr la) ∧ la.length = 16) ∧ ∃ no, w[38]? = some (.inr no) ∧ no.length = 16
theorem PlanJ.x {w : ab_W} {adj : Nat → Nat → Bool} (P : PlanJ w adj) : PlanX w := by
  obtain ⟨p0, ⟨jo, a1, a2, -⟩, p2, p3, p4⟩ := P
  exact ⟨p0, ⟨jo, a1, a2⟩, p2, p3, p4⟩
theorem PlanX.fr {w w1 : ab_W} (P : PlanX w) (F : ∀ i, 34 ≤ i → i < 39 → w1[i]? = w[i]?) : PlanX w1 := by
  unfold PlanX
  rw [F 34 (by decide) (by decide), F 35 (by decide) (by decide), F 36 (by decide) (by decide), F 37 (by decide) (by decide), F 38 (by decide) (by decide)]
  exact P
theorem PlanJ.fr {w w1 : ab_W} {adj : Nat → Nat → Bool} (P : PlanJ w adj) (F : ∀ i, 34 ≤ i → i < 39 → w1[i]? = w[i]?) : PlanJ w1 adj := by
  unfold PlanJ
  rw [F 34 (by decide) (by decide), F 35 (by decide) (by decide), F 36 (by decide) (by decide), F 37 (by decide) (by decide), F 38 (by decide) (by decide)]
  exact P
/-- only the layers have changed -/
theorem PlanJ.la {w w1 : ab_W} {adj : Nat → Nat → Bool} (P : PlanJ w adj) {la : List Int32} (h : w1[37]? = some (.inr la)) (hl : la.length = 16) (F : ∀ i, i ≠ 37 → w1[i]? = w[i]?) : PlanJ w1 adj := by
  unfold PlanJ
  rw [F 34 (by decide), F 35 (by decide), F 36 (by decide), F 38 (by decide)]
  exact ⟨P.1, P.2.1, P.2.2.1, ⟨la, h, hl⟩, P.2.2.2.2⟩
theorem adjB_ge {s : List Int32} {n r : Nat} (h : 2 * n ≤ r) : bs (adjB s n r) 16 = 0 := (bs_zero (by omega)).mpr (fun q _ => by
  unfold adjB
  rw [decide_eq_false (by omega), Bool.false_and, Bool.false_and])
section XI
variable {X : List Int32} {w : ab_W} {r n : Nat} {s : List Int32} {adj : Nat → Nat → Bool}
set_option maxRecDepth 100000 in
set_option maxHeartbeats 4000000 in
theorem x_draw (P : PlanX w) (R : RowW w r s n) (I : SI s n) (hr : r + 11 ≤ 34) : ab_Q X kX1_draw [.ref 34, .ref r] w (fun v w1 => v = none ∧ PlanJ w1 (adjB s n) ∧ ∀ i, i ≠ 35 → w1[i]? = w[i]?) := by
  obtain ⟨p0, ⟨jo, p1, jl⟩, ⟨wk, p2, wl⟩, ⟨la, p3, ll⟩, ⟨no, p4, nl⟩⟩ := P
  obtain ⟨-, -, -, -, -, -, -, hn⟩ := id R
  show ab_H X kX1_draw 0 [some (.ref 34), some (.ref r), none] [] w _
  refine h_k (y := 0) rfl rfl ?_
  refine h_s rfl ?_
  refine h_loop0 16 (fun i ls v => ls = [some (.ref 34), some (.ref r), some (.int (nI i))] ∧ (∀ j, j ≠ 35 → v[j]? = w[j]?) ∧ ∃ jo, v[35]? = some (.inr jo) ∧ jo.length = 16 ∧ ∀ m, m < i → jo.getD m 0 = bs (adjB s n m) 16) ⟨rfl, fun _ _ => rfl, jo, p1, jl, fun m hm => absurd hm (by omega)⟩ (fun i ls v hi hJ ih => ?_) (fun ls v hJ => ?_)
  · obtain ⟨rfl, F, jo, p1, jl, g⟩ := hJ
    have R1 := R.fr (w1 := v) (fun j h1 h2 => F j (by omega))
    have p0 := (F 34 (by decide)).trans p0
    have q0 := R1.1
    refine h_s rfl ?_
    refine h_k (y := 16) rfl rfl ?_
    refine hN_ge (b := 16) rfl rfl rfl rfl (by omega) (by omega) (fun h5 => absurd h5 (by omega)) (fun h5 => ?_)
    refine h_s rfl ?_
    refine h_gf rfl rfl rfl p0 rfl ?_
    iterate 3 refine h_s rfl ?_
    refine h_cv rfl rfl rfl q0 rfl rfl (x_hasRoom R1 (nI i)) ?_
    refine h_n (st2 := [_, _, _]) rfl ?_
    refine hz_eq rfl rfl (fun h18 => ?_) (fun h18 => ?_)
    · refine h_k (y := 0) rfl rfl ?_
      refine hq_c rfl (x_put p1 (by omega) (j := i) (by omega) _) (fun v2 w4 q4 => ?_)
      obtain ⟨rfl, e4, f4⟩ := q4
      refine h_n (st2 := []) rfl ?_
      refine h_ii rfl rfl rfl ?_
      refine h_s rfl ?_
      refine ih _ _ ⟨rfl, fun j hj => (f4 j hj).trans (F j hj), _, e4, by rw [List.length_set]; exact jl, fun m hm => ?_⟩
      rw [gD_set _ _ _ _ (by omega)]
      by_cases e : m = i
      · rw [if_pos e, adjB_ge (by rw [inN_nI (by omega), decide_eq_false_iff_not] at h18; omega)]
      · rw [if_neg e]
        exact g m (by omega)
    · iterate 2 refine h_s rfl ?_
      rw [inN_nI (by omega), decide_eq_true_eq] at h18
      refine h_cv rfl rfl rfl q0 rfl rfl (x_besides R1 I h18) ?_
      refine h_n (st2 := [_, _, _]) rfl ?_
      refine h_s rfl ?_
      refine hq_c rfl (x_put p1 (by omega) (j := i) (by omega) _) (fun v2 w4 q4 => ?_)
      obtain ⟨rfl, e4, f4⟩ := q4
      refine h_n (st2 := []) rfl ?_
      refine h_ii rfl rfl rfl ?_
      refine h_s rfl ?_
      refine ih _ _ ⟨rfl, fun j hj => (f4 j hj).trans (F j hj), _, e4, by rw [List.length_set]; exact jl, fun m hm => ?_⟩
      rw [gD_set _ _ _ _ (by omega)]
      by_cases e : m = i
      · rw [if_pos e, e]
      · rw [if_neg e]
        exact g m (by omega)
  · obtain ⟨rfl, F, jo, p1, jl, g⟩ := hJ
    refine h_s rfl ?_
    refine h_k (y := 16) rfl rfl ?_
    refine hN_ge (b := 16) rfl rfl rfl rfl (by omega) (by omega) (fun h5 => ?_) (fun h5 => absurd (by omega) h5)
    exact h_r rfl ⟨rfl, ⟨(F _ (by decide)).trans p0, ⟨jo, p1, jl, g⟩, ⟨wk, (F _ (by decide)).trans p2, wl⟩, ⟨la, (F _ (by decide)).trans p3, ll⟩, ⟨no, (F _ (by decide)).trans p4, nl⟩⟩, F⟩
theorem any_bs (p : Nat → Bool) (adj : Nat → Nat → Bool) : bs (fun q => anyR (fun r => p r && adj r q) 0) 16 = 0 := (bs_zero (by omega)).mpr (fun _ _ => rfl)
set_option maxRecDepth 100000 in
set_option maxHeartbeats 4000000 in
theorem x_besidesAny (P : PlanJ w adj) (p : Nat → Bool) : ab_M X kX1_besidesAny [.ref 34, .int (bs p 16)] w (some (.int (bs (fun q => anyR (fun r => p r && adj r q) 16) 16))) w := by
  have P0 := P
  obtain ⟨p0, ⟨jo, p1, jl, hjo⟩, ⟨wk, p2, wl⟩, ⟨la, p3, ll⟩, ⟨no, p4, nl⟩⟩ := P
  show ab_G X kX1_besidesAny 0 [some (.ref 34), some (.int (bs p 16)), none, none] [] w _ _
  refine ab_k (y := 0) rfl rfl ?_
  refine ab_s rfl ?_
  refine ab_k (y := 0) rfl rfl ?_
  refine ab_s rfl ?_
  refine g_loop0 16 (fun i ls => ls = [some (.ref 34), some (.int (bs p 16)), some (.int (bs (fun q => anyR (fun r => p r && adj r q) i) 16)), some (.int (nI i))]) (by rw [any_bs]; rfl) (fun i ls hi hJ ih => ?_) (fun ls hJ => ?_)
  · obtain rfl := hJ
    refine ab_s rfl ?_
    refine ab_k (y := 16) rfl rfl ?_
    refine jN_ge (b := 16) rfl rfl rfl rfl (by omega) (by omega) (fun h7 => absurd h7 (by omega)) (fun h7 => ?_)
    iterate 2 refine ab_s rfl ?_
    refine ab_c rfl (x_isInB p (by omega) hi) ?_
    refine ab_n (st2 := [_]) rfl ?_
    refine z1_eq rfl rfl (fun h15 => ?_) (fun h15 => ?_)
    · refine ab_ii rfl rfl rfl ?_
      refine ab_s rfl ?_
      exact ih _ (by rw [bs_cong (p := fun q => anyR (fun r => p r && adj r q) i) (q := fun q => anyR (fun r => p r && adj r q) (i + 1)) (fun q _ => by rw [anyR, h15, Bool.false_and, Bool.or_false])]; rfl)
    · iterate 2 refine ab_s rfl ?_
      refine ab_gf rfl rfl rfl p0 rfl ?_
      refine ab_s rfl ?_
      refine ab_c rfl (x_cell p1 (by omega) (j := i) (by omega)) ?_
      refine ab_t (hjo i hi) ?_
      refine ab_n (st2 := [_, _]) rfl ?_
      iterate 2 refine ab_s rfl ?_
      refine ab_ii rfl rfl rfl ?_
      refine ab_s rfl ?_
      exact ih _ (by rw [show bs (fun q => anyR (fun r => p r && adj r q) (i + 1)) 16 = bs (fun q => anyR (fun r => p r && adj r q) i) 16 ||| bs (adj i) 16 from by rw [bs_or (by omega)]; exact bs_cong (fun q _ => by rw [anyR, h15, Bool.true_and])]; rfl)
  · obtain rfl := hJ
    refine ab_s rfl ?_
    refine ab_k (y := 16) rfl rfl ?_
    refine jN_ge (b := 16) rfl rfl rfl rfl (by omega) (by omega) (fun h7 => ?_) (fun h7 => absurd (by omega) h7)
    refine ab_s rfl ?_
    exact ab_ri rfl rfl
theorem wB_1 {op st : Nat → Bool} : bs (fun i => wB adj op st 1 i && !wB adj op st 0 i) 16 = bs (wB adj op st 1) 16 := bs_cong (fun i _ => by rw [show wB adj op st 0 i = false from rfl]; simp)
theorem wB_e0 {op st : Nat → Bool} : bs (wB adj op st 1) 16 = bs st 16 &&& bs op 16 := by rw [← wB_1, len_more0]
theorem len_f {op st : Nat → Bool} {k : Nat} (h : bs (fun i => wB adj op st (k + 1) i && !wB adj op st k i) 16 = 0) : ∀ m, k ≤ m → ∀ i, i < 16 → wB adj op st m i = wB adj op st k i := by
  rw [bs_zero (by omega)] at h
  refine wB_fix (fun i hi => ?_)
  have h5 := h i hi
  cases h6 : wB adj op st k i with
  | true => exact wB_mono h6
  | false => simpa [h6] using h5
set_option maxRecDepth 100000 in
set_option maxHeartbeats 4000000 in
theorem x_reachable (P : PlanJ w adj) (q : Nat → Bool) : ab_M X kX1_reachable [.ref 34, .int (bs q 8)] w (some (.int (bs (wB adj (fun r => q (r / 2)) evB 16) 16))) w := by
  have P0 := P
  obtain ⟨p0, ⟨jo, p1, jl, hjo⟩, ⟨wk, p2, wl⟩, ⟨la, p3, ll⟩, ⟨no, p4, nl⟩⟩ := P
  show ab_G X kX1_reachable 0 [some (.ref 34), some (.int (bs q 8)), none, none, none, none] [] w _ _
  refine ab_s rfl ?_
  refine ab_c rfl (x_roomsOf q) ?_
  refine ab_n (st2 := [_]) rfl ?_
  refine ab_s rfl ?_
  refine ab_k (y := 21845) rfl rfl ?_
  refine ab_s rfl ?_
  refine ab_s rfl ?_
  refine ab_t (y := bs (wB adj (fun r => q (r / 2)) evB 1) 16) (by rw [wB_e0, ev_21845]) ?_
  iterate 3 refine ab_s rfl ?_
  refine ab_k (y := 0) rfl rfl ?_
  refine ab_s rfl ?_
  refine g_loop0 16 (fun i ls => ls = [some (.ref 34), some (.int (bs q 8)), some (.int (bs (fun r => q (r / 2)) 16)), some (.int (bs (wB adj (fun r => q (r / 2)) evB (i + 1)) 16)), some (.int (bs (fun y => wB adj (fun r => q (r / 2)) evB (i + 1) y && !wB adj (fun r => q (r / 2)) evB i y) 16)), some (.int (nI i))]) (by rw [wB_1]; rfl) (fun i ls hi hJ ih => ?_) (fun ls hJ => ?_)
  · obtain rfl := hJ
    refine ab_s rfl ?_
    refine ab_k (y := 16) rfl rfl ?_
    refine jN_ge (b := 16) rfl rfl rfl rfl (by omega) (by omega) (fun h21 => absurd h21 (by omega)) (fun h21 => ?_)
    refine ab_s rfl ?_
    refine j1_eq rfl rfl (fun h26 => ?_) (fun h26 => ?_)
    · refine ab_s rfl ?_
      exact ab_ri rfl (by rw [← len_set, h26, or_0]; exact bs_cong (fun j hj => (len_f h26 16 (by omega) j hj).symm))
    · iterate 2 refine ab_s rfl ?_
      refine ab_cv rfl rfl rfl p0 rfl rfl (x_besidesAny P0 _) ?_
      refine ab_n (st2 := [_]) rfl ?_
      refine ab_s rfl ?_
      refine ab_s rfl ?_
      refine ab_t (bs_and (by omega)) ?_
      refine ab_s rfl ?_
      refine ab_k (y := (-1)) rfl rfl ?_
      refine ab_s rfl ?_
      refine ab_s rfl ?_
      refine ab_t len_more ?_
      iterate 5 refine ab_s rfl ?_
      refine ab_ii rfl rfl rfl ?_
      refine ab_s rfl ?_
      exact ih _ (by rw [← len_set (k := i + 1)]; rfl)
  · obtain rfl := hJ
    refine ab_s rfl ?_
    refine ab_k (y := 16) rfl rfl ?_
    refine jN_ge (b := 16) rfl rfl rfl rfl (by omega) (by omega) (fun h21 => ?_) (fun h21 => absurd (by omega) h21)
    refine ab_s rfl ?_
    exact ab_ri rfl (bs_cong (fun j hj => wB_16 (by omega) hj))
set_option maxRecDepth 100000 in
set_option maxHeartbeats 4000000 in
theorem x_shortest (P : PlanJ w adj) (hs : ∀ a b, a < 16 → b < 16 → adj a b = adj b a) (q : Nat → Bool) {room : Nat} (hr : room < 16) : ab_Q X kX1_shortest [.ref 34, .int (nI room), .int (bs q 8)] w (fun v w1 => v = some (.int (nI (wayL adj (fun r => q (r / 2)) evB room))) ∧ (∀ j, j ≠ 37 → w1[j]? = w[j]?) ∧ ∃ la, w1[37]? = some (.inr la) ∧ la.length = 16 ∧ ∀ j, j < wayL adj (fun r => q (r / 2)) evB room → la.getD j 0 = (bs (fun y => wB adj (fun r => q (r / 2)) (fun y => decide (y = room)) (j + 1) y && !wB adj (fun r => q (r / 2)) (fun y => decide (y = room)) j y) 16)) := by
  have P0 := P
  obtain ⟨p0, ⟨jo, p1, jl, hjo⟩, ⟨wk, p2, wl⟩, ⟨la, p3, ll⟩, ⟨no, p4, nl⟩⟩ := P
  show ab_H X kX1_shortest 0 [some (.ref 34), some (.int (nI room)), some (.int (bs q 8)), none, none, none, none] [] w _
  refine h_s rfl ?_
  refine h_c rfl (x_roomsOf q) ?_
  refine h_n (st2 := [_]) rfl ?_
  refine h_s rfl ?_
  refine h_k (y := 1) rfl rfl ?_
  iterate 3 refine h_s rfl ?_
  refine h_s rfl ?_
  refine h_t (y := bs (wB adj (fun r => q (r / 2)) (fun y => decide (y = room)) 1) 16) (by rw [wB_e0]; congr 1; apply b_ext; intro i hi; rw [b_sh (by omega) hi, bt_bs _ _ _ (by omega) hi]; by_cases e : i = room <;> simp [e, hr]) ?_
  iterate 3 refine h_s rfl ?_
  refine h_k (y := 0) rfl rfl ?_
  refine h_s rfl ?_
  refine h_loop0 16 (fun i ls v => ls = [some (.ref 34), some (.int (nI room)), some (.int (bs q 8)), some (.int (bs (fun r => q (r / 2)) 16)), some (.int (bs (fun y => wB adj (fun r => q (r / 2)) (fun y => decide (y = room)) (i + 1) y && !wB adj (fun r => q (r / 2)) (fun y => decide (y = room)) i y) 16)), some (.int (bs (wB adj (fun r => q (r / 2)) (fun y => decide (y = room)) (i + 1)) 16)), some (.int (nI i))] ∧ (∀ j, j ≠ 37 → v[j]? = w[j]?) ∧ (∃ la, v[37]? = some (.inr la) ∧ la.length = 16 ∧ ∀ j, j < i → la.getD j 0 = (bs (fun y => wB adj (fun r => q (r / 2)) (fun y => decide (y = room)) (j + 1) y && !wB adj (fun r => q (r / 2)) (fun y => decide (y = room)) j y) 16)) ∧ ∀ j, j < 16 → evB j = true → wB adj (fun r => q (r / 2)) (fun y => decide (y = room)) i j = false) ⟨(by rw [wB_1]; rfl), fun _ _ => rfl, ⟨la, p3, ll, fun j hj => absurd hj (by omega)⟩, fun _ _ _ => rfl⟩ (fun i ls v hi hJ ih => ?_) (fun ls v hJ => ?_)
  · obtain ⟨rfl, F, ⟨la, p3, ll, g⟩, hE⟩ := hJ
    have p0 := (F 34 (by decide)).trans p0
    refine h_s rfl ?_
    refine h_k (y := 16) rfl rfl ?_
    refine hN_ge (b := 16) rfl rfl rfl rfl (by omega) (by omega) (fun h23 => absurd h23 (by omega)) (fun h23 => ?_)
    refine h_s rfl ?_
    refine h1_eq rfl rfl (fun h28 => ?_) (fun h28 => ?_)
    · refine h_k (y := 0) rfl rfl ?_
      have hw := short0 hs hr hE (len_f h28)
      rw [hw]
      exact h_ri rfl rfl ⟨rfl, F, la, p3, ll, fun j hj => absurd hj (by omega)⟩
    · refine h_s rfl ?_
      refine h_gf rfl rfl rfl p0 rfl ?_
      iterate 2 refine h_s rfl ?_
      refine hq_c rfl (x_put p3 (by omega) (j := i) (by omega) _) (fun v2 w4 q4 => ?_)
      obtain ⟨rfl, e4, f4⟩ := q4
      have g4 : ∀ j, j < i + 1 → (la.set i (bs (fun y => wB adj (fun r => q (r / 2)) (fun y => decide (y = room)) (i + 1) y && !wB adj (fun r => q (r / 2)) (fun y => decide (y = room)) i y) 16)).getD j 0 = (bs (fun y => wB adj (fun r => q (r / 2)) (fun y => decide (y = room)) (j + 1) y && !wB adj (fun r => q (r / 2)) (fun y => decide (y = room)) j y) 16) := fun j hj => by
        rw [gD_set _ _ _ _ (by omega)]
        by_cases e : j = i
        · rw [if_pos e, e]
        · rw [if_neg e]
          exact g j (by omega)
      have F4 : ∀ j, j ≠ 37 → w4[j]? = w[j]? := fun j hj => (f4 j hj).trans (F j hj)
      have P0 := P0.la e4 (by rw [List.length_set]; exact ll) F4
      have p0 := P0.1
      refine h_n (st2 := []) rfl ?_
      refine h_s rfl ?_
      refine h_k (y := 21845) rfl rfl ?_
      refine h_s rfl ?_
      refine h_t (y := bs (fun y => (wB adj (fun r => q (r / 2)) (fun y => decide (y = room)) (i + 1) y && !wB adj (fun r => q (r / 2)) (fun y => decide (y = room)) i y) && evB y) 16) (by rw [ev_21845]; exact bs_and (by omega)) ?_
      refine h1_eq rfl rfl (fun h48 => ?_) (fun h48 => ?_)
      · iterate 2 refine h_s rfl ?_
        refine h_cv rfl rfl rfl p0 rfl rfl (x_besidesAny P0 _) ?_
        refine h_n (st2 := [_]) rfl ?_
        refine h_s rfl ?_
        refine h_s rfl ?_
        refine h_t (bs_and (by omega)) ?_
        refine h_s rfl ?_
        refine h_k (y := (-1)) rfl rfl ?_
        refine h_s rfl ?_
        refine h_s rfl ?_
        refine h_t len_more ?_
        iterate 5 refine h_s rfl ?_
        refine h_ii rfl rfl rfl ?_
        refine h_s rfl ?_
        refine ih _ _ ⟨by rw [← len_set (k := i + 1)]; rfl, F4, ⟨_, e4, by rw [List.length_set]; exact ll, g4⟩, fun j hj hj2 => ?_⟩
        have h5 := (bs_zero (by omega)).mp h48 j hj
        rw [hj2, hE j hj hj2, Bool.not_false, Bool.and_true, Bool.and_true] at h5
        exact h5
      · refine h_s rfl ?_
        refine h_k (y := 1) rfl rfl ?_
        refine h_Nadd (b := 1) rfl rfl rfl ?_
        obtain ⟨j, hj, hj2⟩ := bs_nz (by omega) h48
        simp only [Bool.and_eq_true] at hj2
        have hw := short1 hs hr hE hj hj2.2 hj2.1.1
        rw [hw]
        exact h_ri rfl rfl ⟨rfl, F4, _, e4, by rw [List.length_set]; exact ll, g4⟩
  · obtain ⟨rfl, F, ⟨la, p3, ll, g⟩, hE⟩ := hJ
    refine h_s rfl ?_
    refine h_k (y := 16) rfl rfl ?_
    refine hN_ge (b := 16) rfl rfl rfl rfl (by omega) (by omega) (fun h23 => ?_) (fun h23 => absurd (by omega) h23)
    refine h_k (y := 0) rfl rfl ?_
    have hw := short0 hs hr hE (fun m hm i hi => wB_16 hm hi)
    rw [hw]
    exact h_ri rfl rfl ⟨rfl, F, la, p3, ll, fun j hj => absurd hj (by omega)⟩
end XI
