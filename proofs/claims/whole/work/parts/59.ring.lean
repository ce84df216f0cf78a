/-! RINGS, in both -/
/-- r names i -/
def adjL (s : List Int32) (n r i : Nat) : Bool := decide (r < n) && decide (i < n) && (bt (fld s r 2) i && !decide (i = r))
/-- in so many steps, each by a name -/
def wkB (s : List Int32) (n h : Nat) : Nat → Nat → Bool
  | 0, i => decide (i = h)
  | m + 1, i => anyR (fun r => wkB s n h m r && adjL s n r i) 16
def ringL (s : List Int32) (n h : Nat) : Nat := lenR (wkB s n h) h 8
/-- reached by names -/
def rgB (s : List Int32) (n h : Nat) : Nat → Nat → Bool := wB (adjL s n) (fun i => decide (i < n)) (fun y => decide (y = h))
def hitB (s : List Int32) (n h j : Nat) : Bool := anyR (fun r => (rgB s n h (j + 1) r && !rgB s n h j r) && adjL s n r h) 16
section RG
variable {s : List Int32} {n h : Nat}
theorem nam_adj {p : Nat → Bool} {g : Nat} (hn : n ≤ 8) (hg : g < n) : namB s n p g = anyR (fun r => p r && adjL s n r g) 16 := by
  rw [Bool.eq_iff_iff]
  unfold namB adjL
  rw [anyR_iff, anyR_iff]
  simp only [Bool.and_eq_true, decide_eq_true_eq]
  constructor
  · rintro ⟨r, h1, h2, h3⟩
    exact ⟨r, by omega, h2, ⟨h1, hg⟩, h3⟩
  · rintro ⟨r, h1, h2, ⟨h3, h4⟩, h5⟩
    exact ⟨r, h3, h2, h5⟩
theorem adj_lt {r i : Nat} (h : adjL s n r i = true) : r < n ∧ i < n := by
  unfold adjL at h
  simp only [Bool.and_eq_true, decide_eq_true_eq] at h
  exact h.1
theorem nam_bs {p : Nat → Bool} (hn : n ≤ 8) : bs (namB s n p) n = bs (fun g => anyR (fun r => p r && adjL s n r g) 16) 8 := by
  apply b_ext
  intro i hi
  rw [bt_bs _ _ _ (by omega) hi, bt_bs _ _ _ (by omega) hi]
  by_cases h1 : i < n
  · rw [nam_adj hn h1, decide_eq_true h1, decide_eq_true (show i < 8 by omega)]
  · rw [decide_eq_false h1, Bool.false_and]
    have : anyR (fun r => p r && adjL s n r i) 16 = false := by
      rw [Bool.eq_false_iff, ne_eq, anyR_iff]
      rintro ⟨r, _, q⟩
      simp only [Bool.and_eq_true] at q
      exact h1 (adj_lt q.2).2
    rw [this, Bool.and_false]
theorem rg_lt {k i : Nat} (q : rgB s n h k i = true) : i < n := by
  have := wB_op (op := fun i => decide (i < n)) q
  simpa using this
theorem rg_h (hh : h < n) (k : Nat) : rgB s n h (k + 1) h = true := by
  unfold rgB wB
  simp [hh]
theorem rg_step {k i r : Nat} (hr : rgB s n h k r = true) (ha : adjL s n r i = true) (hn : n ≤ 8) : rgB s n h (k + 1) i = true := by
  unfold rgB wB
  simp only [Bool.and_eq_true, Bool.or_eq_true, decide_eq_true_eq, anyR_iff]
  exact ⟨(adj_lt ha).2, Or.inr ⟨r, by have := (adj_lt ha).1; omega, hr, ha⟩⟩
theorem rg_back {k i : Nat} (q : rgB s n h (k + 1) i = true) : i = h ∨ ∃ r, r < 16 ∧ rgB s n h k r = true ∧ adjL s n r i = true := by
  unfold rgB wB at q
  simp only [Bool.and_eq_true, Bool.or_eq_true, decide_eq_true_eq, anyR_iff] at q
  exact q.2
theorem rg_w1 (hh : h < n) (hn : n ≤ 8) : ∀ {j x : Nat}, rgB s n h (j + 1) x = true → rgB s n h j x = false → wkB s n h j x = true
  | 0, x, h1, _ => by
    rcases rg_back h1 with rfl | ⟨r, _, q, _⟩
    · exact decide_eq_true rfl
    · cases q
  | j + 1, x, h1, h2 => by
    rcases rg_back h1 with rfl | ⟨r, hr, q1, q2⟩
    · rw [rg_h hh] at h2; cases h2
    · have h3 : rgB s n h j r = false := by
        cases h4 : rgB s n h j r with
        | false => rfl
        | true => rw [rg_step h4 q2 hn] at h2; cases h2
      show anyR (fun r => wkB s n h j r && adjL s n r x) 16 = true
      rw [anyR_iff]
      exact ⟨r, hr, by rw [rg_w1 hh hn q1 h3, q2]; rfl⟩
theorem rg_w2 (hh : h < n) (hn : n ≤ 8) : ∀ {m x : Nat}, wkB s n h m x = true → rgB s n h (m + 1) x = true
  | 0, x, q => by
    have e : x = h := by simpa [wkB] using q
    rw [e]
    exact rg_h hh 0
  | m + 1, x, q => by
    have q' : anyR (fun r => wkB s n h m r && adjL s n r x) 16 = true := q
    rw [anyR_iff] at q'
    obtain ⟨r, hr, q1⟩ := q'
    simp only [Bool.and_eq_true] at q1
    exact rg_step (rg_w2 hh hn q1.1) q1.2 hn
theorem cnt_lt {m : Nat} : ∀ {k : Nat}, cntR (fun i => decide (i < m)) k = min k m
  | 0 => by rw [Nat.zero_min]; rfl
  | k + 1 => by
    rw [cntR, cnt_lt (k := k)]
    by_cases h : k < m
    · rw [decide_eq_true h]
      show min k m + 1 = _
      omega
    · rw [decide_eq_false h]
      show min k m + 0 = _
      omega
/-- a closed walk is a hit at some earlier layer -/
theorem rg_hit (hh : h < n) (hn : n ≤ 8) {m : Nat} (q : wkB s n h (m + 1) h = true) : ∃ d, d ≤ m ∧ d < n ∧ hitB s n h d = true := by
  have q' : anyR (fun r => wkB s n h m r && adjL s n r h) 16 = true := q
  rw [anyR_iff] at q'
  obtain ⟨r, hr, q1⟩ := q'
  simp only [Bool.and_eq_true] at q1
  obtain ⟨d, hd1, hd2⟩ := pk_least (fun d => rgB s n h (d + 1) r = true) ⟨m, rg_w2 hh hn q1.1⟩
  have hdm : d ≤ m := by
    rcases Nat.lt_or_ge m d with h1 | h1
    · exact absurd (rg_w2 hh hn q1.1) (hd2 m h1)
    · exact h1
  have hd3 : rgB s n h d r = false := by
    cases d with
    | zero => rfl
    | succ d => exact Bool.eq_false_iff.mpr (hd2 d (by omega))
  refine ⟨d, hdm, ?_, ?_⟩
  · have hc : d + 1 ≤ cntR (rgB s n h (d + 1)) 16 := by
      refine wB_count (adj := adjL s n) (op := fun i => decide (i < n)) (start := fun y => decide (y = h)) (fun j hj => ?_)
      by_cases hex : ∃ i, i < 16 ∧ rgB s n h (j + 1) i = true ∧ rgB s n h j i = false
      · exact hex
      · exfalso
        have hfix : ∀ i, i < 16 → rgB s n h (j + 1) i = rgB s n h j i := by
          intro i hi
          cases h4 : rgB s n h j i with
          | true => exact wB_mono h4
          | false =>
            cases h5 : rgB s n h (j + 1) i with
            | false => rfl
            | true => exact absurd ⟨i, hi, h5, h4⟩ hex
        have e1 := wB_fix (adj := adjL s n) (op := fun i => decide (i < n)) (start := fun y => decide (y = h)) hfix (d + 1) (by omega) r hr
        have e2 := wB_fix (adj := adjL s n) (op := fun i => decide (i < n)) (start := fun y => decide (y = h)) hfix d (by omega) r hr
        have e3 : rgB s n h (d + 1) r = rgB s n h d r := e1.trans e2.symm
        rw [hd1, hd3] at e3
        cases e3
    have hs : cntR (rgB s n h (d + 1)) 16 ≤ cntR (fun i => decide (i < n)) 16 := cntR_sub (fun i _ q => decide_eq_true (rg_lt q))
    rw [cnt_lt] at hs
    omega
  · unfold hitB
    rw [anyR_iff]
    exact ⟨r, hr, by rw [hd1, hd3, q1.2]; rfl⟩
theorem hit_wk (hh : h < n) (hn : n ≤ 8) {j : Nat} (q : hitB s n h j = true) : wkB s n h (j + 1) h = true := by
  unfold hitB at q
  rw [anyR_iff] at q
  obtain ⟨r, hr, q⟩ := q
  simp only [Bool.and_eq_true, Bool.not_eq_true'] at q
  show anyR (fun r => wkB s n h j r && adjL s n r h) 16 = true
  rw [anyR_iff]
  exact ⟨r, hr, by rw [rg_w1 hh hn q.1.1 q.1.2, q.2]; rfl⟩
theorem len_first {B : Nat → Nat → Bool} {room d : Nat} (hB : B (d + 1) room = true) (hf : ∀ j, j < d → B (j + 1) room = false) : ∀ m, d + 1 ≤ m → lenR B room m = d + 1 := by
  intro m hm
  rcases lenR_spec B room m with ⟨h1, h2⟩ | ⟨h1, h2, h3, h4⟩
  · rw [h2 (d + 1) (by omega) hm] at hB; cases hB
  · rcases Nat.lt_trichotomy (lenR B room m) (d + 1) with h5 | h5 | h5
    · obtain ⟨e, he⟩ : ∃ e, lenR B room m = e + 1 := ⟨lenR B room m - 1, by omega⟩
      rw [he] at h3 h5
      rw [hf e (by omega)] at h3; cases h3
    · exact h5
    · rw [h4 (d + 1) (by omega) h5] at hB; cases hB
theorem len_zero {B : Nat → Nat → Bool} {room m : Nat} (hf : ∀ j, j < m → B (j + 1) room = false) : lenR B room m = 0 := by
  rcases lenR_spec B room m with ⟨h1, _⟩ | ⟨h1, h2, h3, _⟩
  · exact h1
  · obtain ⟨e, he⟩ : ∃ e, lenR B room m = e + 1 := ⟨lenR B room m - 1, by omega⟩
    rw [he] at h2 h3
    rw [hf e (by omega)] at h3; cases h3
theorem ring_hit (hh : h < n) (hn : n ≤ 8) {i : Nat} (hi : i < n) (h1 : ∀ j, j < i → hitB s n h j = false) (h2 : hitB s n h i = true) : ringL s n h = i + 1 := by
  refine len_first (hit_wk hh hn h2) (fun j hj => ?_) 8 (by omega)
  cases h3 : wkB s n h (j + 1) h with
  | false => rfl
  | true =>
    obtain ⟨d, hd1, hd2, hd3⟩ := rg_hit hh hn h3
    rw [h1 d (by omega)] at hd3; cases hd3
theorem ring_none (hh : h < n) (hn : n ≤ 8) (h1 : ∀ j, j < n → hitB s n h j = false) : ringL s n h = 0 := by
  refine len_zero (fun j hj => ?_)
  cases h3 : wkB s n h (j + 1) h with
  | false => rfl
  | true =>
    obtain ⟨d, hd1, hd2, hd3⟩ := rg_hit hh hn h3
    rw [h1 d hd2] at hd3; cases hd3
theorem ring_le : ringL s n h ≤ 8 := by
  unfold ringL
  rcases lenR_spec (wkB s n h) h 8 with ⟨h1, _⟩ | ⟨_, h2, _⟩ <;> omega
end RG
section RGX
variable {X : List Int32} {w w1 : ab_W} {r : Nat} {s : List Int32} {n : Nat} {st ks : List Int32} {kp : Bool} {tp : List Int32} {tn : Nat} {bo so nu : List Int32}
set_option maxRecDepth 100000 in
set_option maxHeartbeats 4000000 in
theorem x_ring_k (R : XW w s n st ks kp tp tn bo so nu) (I : SI s n) (h : Nat) (hh : h < n) (L : Nat) (hL0 : ringL s n h = L) : ab_Q X kX5_ring [.ref 0, .int (nI h)] w (fun v w1 => if L = 0 then XP w (-1000004) s n (bump st 3) ks kp tp tn bo so nu v w1 else XP w (nI L) s n st ks kp tp tn bo so nu v w1) := by
  have R0 := R
  obtain ⟨x0, XR, ⟨sd, nd, XD⟩, ⟨sk, nk, XK, hkp⟩, XPl, XT, XS, x45, xl⟩ := R
  have r0 := XR.1
  have p0 := XPl.1
  have d0 := XD.1
  have hn : n ≤ 8 := XR.2.2.2.2.2.2.2
  have RC := R0
  show ab_H X kX5_ring 0 [some (.ref 0), some (.int (nI h)), none, none, none, none] [] w _
  refine h_s rfl ?_
  refine h_gf rfl rfl rfl x0 rfl ?_
  refine h_s rfl ?_
  refine h_cv rfl rfl rfl r0 rfl rfl (x_rhas XR (nI h)) ?_
  refine h_t (y := 1) (by rw [inN_n (by omega) (by omega)]; rfl) ?_
  refine h_n (st2 := [_]) rfl ?_
  refine h_s rfl ?_
  refine h_k (y := 1) rfl rfl ?_
  iterate 5 refine h_s rfl ?_
  refine h_k (y := 1) rfl rfl ?_
  refine h_s rfl ?_
  have hone : (1 : Int32) <<< (nI h &&& 31) = bs (rgB s n h 1) 8 := by
    apply b_ext
    intro i hi
    rw [b_sh (by omega) hi, bt_bs _ _ _ (by omega) hi, Bool.eq_iff_iff]
    simp only [Bool.and_eq_true, decide_eq_true_eq]
    constructor
    · rintro rfl
      exact ⟨by omega, rg_h hh 0⟩
    · rintro ⟨_, q⟩
      rcases rg_back q with e | ⟨r, _, q1, _⟩
      · exact e
      · cases q1
  have hone2 : bs (rgB s n h 1) 8 = bs (fun y => rgB s n h (0 + 1) y && !rgB s n h 0 y) 8 := bs_cong (fun y _ => by rw [show rgB s n h 0 y = false from rfl]; simp)
  refine h_loop0 (n + 1) (fun i ls v => (∃ x, ls = [some (.ref 0), some (.int (nI h)), some (.int (bs (rgB s n h (i + 1)) 8)), some (.int (bs (fun y => rgB s n h (i + 1) y && !rgB s n h i y) 8)), some (.int (nI (i + 1))), x]) ∧ w = v ∧ i ≤ n ∧ ∀ j, j < i → hitB s n h j = false) ⟨⟨none, by rw [← hone2, ← hone]; rfl⟩, rfl, by omega, fun j hj => absurd hj (by omega)⟩ (fun i ls v hi hJ ih => ?_) (fun ls v hJ => absurd hJ.2.2.1 (by omega))
  · obtain ⟨⟨x, rfl⟩, hv, hile, hno⟩ := hJ
    subst hv
    by_cases e : i = n
    · subst e
      have h0L := ring_none hh hn hno
      iterate 2 refine h_s rfl ?_
      refine h_gf rfl rfl rfl x0 rfl ?_
      refine h_gf rfl rfl rfl r0 rfl ?_
      refine hN_gt rfl rfl rfl rfl (by omega) (by omega) (fun h36 => ?_) (fun h36 => absurd (by omega) h36)
      refine h_s rfl ?_
      refine h_k (y := (-1000004)) rfl rfl ?_
      refine hq_v rfl rfl rfl x0 rfl rfl (x_found RC 3 (by omega) _ (by decide)) (fun v9 w9 q9 => ?_)
      obtain ⟨rfl, q2, q3⟩ := q9
      refine h_n (st2 := [_]) rfl ?_
      refine h_ri rfl rfl ?_
      rw [if_pos (hL0.symm.trans h0L)]
      exact ⟨rfl, q2, q3⟩
    · have hin : i < n := by omega
      iterate 2 refine h_s rfl ?_
      refine h_gf rfl rfl rfl x0 rfl ?_
      refine h_gf rfl rfl rfl r0 rfl ?_
      refine hN_gt rfl rfl rfl rfl (by omega) (by omega) (fun h36 => absurd h36 (by omega)) (fun h36 => ?_)
      refine h_s rfl ?_
      refine h_gf rfl rfl rfl x0 rfl ?_
      refine h_s rfl ?_
      refine h_cv rfl rfl rfl r0 rfl rfl (x_named XR I (bs (fun y => rgB s n h (i + 1) y && !rgB s n h i y) 8)) ?_
      refine h_t (y := bs (fun g => anyR (fun r => (rgB s n h (i + 1) r && !rgB s n h i r) && adjL s n r g) 16) 8) ?_ ?_
      · rw [nam_bs hn]
        refine bs_cong (fun g _ => anyR_cong (fun r hr => ?_))
        by_cases hr8 : r < n
        · rw [bt_bs _ _ _ (by omega) (by omega), decide_eq_true (show r < 8 by omega), Bool.true_and]
        · rw [show adjL s n r g = false from Bool.eq_false_iff.mpr (fun q => hr8 (adj_lt q).1), Bool.and_false, Bool.and_false]
      refine h_n (st2 := [_]) rfl ?_
      iterate 3 refine h_s rfl ?_
      refine h_c rfl (x_isInB (fun g => anyR (fun r => (rgB s n h (i + 1) r && !rgB s n h i r) && adjL s n r g) 16) (by decide) (show h < 8 by omega)) ?_
      refine h_n (st2 := [_]) rfl ?_
      refine hz_eq rfl rfl (fun h55 => ?_) (fun h55 => ?_)
      · iterate 2 refine h_s rfl ?_
        refine h_k (y := (-1)) rfl rfl ?_
        refine h_s rfl ?_
        refine h_s rfl ?_
        refine h_t (y := bs (fun y => rgB s n h ((i + 1) + 1) y && !rgB s n h (i + 1) y) 8) ?_ ?_
        · show bs _ 8 &&& (bs _ 8 ^^^ (-1)) = _
          rw [bs_diff (by decide)]
          refine bs_cong (fun g hg => ?_)
          have h9 := wB_next (adj := adjL s n) (op := fun i => decide (i < n)) (start := fun y => decide (y = h)) (k := i) g
          show (anyR (fun r => (rgB s n h (i + 1) r && !rgB s n h i r) && adjL s n r g) 16 && !rgB s n h (i + 1) g) = (rgB s n h (i + 2) g && !rgB s n h (i + 1) g)
          refine Eq.trans ?_ h9
          by_cases hgn : g < n
          · rw [decide_eq_true hgn, Bool.true_and]
            rfl
          · have : anyR (fun r => (rgB s n h (i + 1) r && !rgB s n h i r) && adjL s n r g) 16 = false := by
              rw [Bool.eq_false_iff, ne_eq, anyR_iff]
              rintro ⟨r, _, q⟩
              simp only [Bool.and_eq_true] at q
              exact hgn (adj_lt q.2).2
            rw [this, decide_eq_false hgn]
            rfl
        iterate 5 refine h_s rfl ?_
        refine h_ii rfl rfl rfl ?_
        refine h_s rfl ?_
        have hsn : bs (rgB s n h (i + 1 + 1)) 8 = bs (rgB s n h (i + 1)) 8 ||| bs (fun y => rgB s n h ((i + 1) + 1) y && !rgB s n h (i + 1) y) 8 := by
          rw [bs_or (by decide)]
          refine bs_cong (fun y _ => ?_)
          cases q : rgB s n h (i + 1) y with
          | true => rw [show rgB s n h (i + 1 + 1) y = true from wB_mono q]; rfl
          | false => simp
        refine ih _ _ ⟨⟨_, by rw [hsn]; rfl⟩, rfl, by omega, fun j hj => ?_⟩
        by_cases e2 : j = i
        · rw [e2]
          exact h55
        · exact hno j (by omega)
      · refine h_s rfl ?_
        have hL1 := ring_hit hh hn hin hno h55
        refine h_ri rfl rfl ?_
        rw [if_neg (by omega), show L = i + 1 by omega]
        exact XP.same R0 _
end RGX
section RGM
variable {X : List Int32} {w w1 : ab_W} {s : List Int32} {n : Nat} {st ks : List Int32} {kp : Bool} {tp : List Int32} {tn : Nat} {bo so nu : List Int32}
set_option maxRecDepth 100000 in
set_option maxHeartbeats 4000000 in
theorem m_ring_k (R : MW w s n st ks kp tp tn bo so nu) (I : SI s n) (h : Nat) (hh : h < n) (L : Nat) (hL0 : ringL s n h = L) : ab_Q X kX6_ring [.ref 54, .int (nI h)] w (fun v w1 => if L = 0 then MP w (-1000004) s n (bump st 3) ks kp tp tn bo so nu v w1 else MP w (nI L) s n st ks kp tp tn bo so nu v w1) := by
  have M := R.ms
  have R0 := R
  have RC := R0
  obtain ⟨oth, nz, mv, fr, to, vl, wr, a54, a55, a56, a57, a58, a59, a60, a61, a62, a63, a64, l, h0, hn, ht⟩ := R
  show ab_H X kX6_ring 0 [some (.ref 54), some (.int (nI h)), none, none, none, none, none] [] w _
  have hall : ((1 : Int32) <<< (nI n &&& 31)) - 1 = bs (fun _ => true) n := mask_n n hn
  have hxh := (I.1 h hh).2.2.1
  have hw1 : fld s h 2 &&& (((1 : Int32) <<< (nI n &&& 31)) - 1) &&& (((1 : Int32) <<< (nI h &&& 31)) ^^^ (-1)) = bs (wkB s n h 1) 8 := by
    rw [hall]
    apply b_ext
    intro j hj
    rw [b_and, b_and, b_xor, b_sh (by omega) hj, b_m1 j hj, bt_bs _ _ _ (by omega) hj, bt_bs _ _ _ (by omega) hj]
    have e1 : wkB s n h 1 j = adjL s n h j := by
      show anyR (fun r => decide (r = h) && adjL s n r j) 16 = _
      rw [Bool.eq_iff_iff, anyR_iff]
      constructor
      · rintro ⟨r, _, q⟩
        simp only [Bool.and_eq_true, decide_eq_true_eq] at q
        rw [← q.1]; exact q.2
      · intro q
        exact ⟨h, by omega, by rw [decide_eq_true rfl, q]; rfl⟩
    rw [e1]
    unfold adjL
    rw [decide_eq_true hh]
    by_cases h1 : j < n
    · simp [h1, show j < 8 by omega]
    · simp [h1]
  iterate 2 refine h_s rfl ?_
  refine h_cv rfl rfl rfl a54 rfl rfl (m_isHouse1 M ⟨h, by omega, rfl⟩) ?_
  refine h_n (st2 := [_]) rfl ?_
  refine h_s rfl ?_
  refine h_k (y := 1) rfl rfl ?_
  refine h_s rfl ?_
  refine h_gf rfl rfl rfl a54 rfl ?_
  refine h_k (y := 0) rfl rfl ?_
  refine h_ia (0) rfl a55 (by omega) rfl (by omega) ?_
  refine h_t h0 ?_
  refine h_s rfl ?_
  refine h_k (y := 1) rfl rfl ?_
  iterate 4 refine h_s rfl ?_
  refine h_k (y := 2) rfl rfl ?_
  refine h_cv rfl rfl rfl a54 rfl rfl (m_its M h 2 (by omega) (by decide) rfl rfl) ?_
  refine h_n (st2 := [_]) rfl ?_
  iterate 2 refine h_s rfl ?_
  refine h_k (y := 1) rfl rfl ?_
  iterate 2 refine h_s rfl ?_
  refine h_k (y := (-1)) rfl rfl ?_
  refine h_s rfl ?_
  refine h_s rfl ?_
  refine h_t hw1 ?_
  refine h_s rfl ?_
  refine h_k (y := 1) rfl rfl ?_
  refine h_s rfl ?_
  refine h_loop0 9 (fun i ls v => (∃ x5 x6, ls = [some (.ref 54), some (.int (nI h)), some (.int (((1 : Int32) <<< (nI n &&& 31)) - 1)), some (.int (bs (wkB s n h (i + 1)) 8)), some (.int (nI (i + 1))), x5, x6]) ∧ w = v ∧ i ≤ 8 ∧ ∀ j, j < i → wkB s n h (j + 1) h = false) ⟨⟨none, none, rfl⟩, rfl, by decide, fun j hj => absurd hj (by omega)⟩ (fun i ls v hi hJ ih => ?_) (fun ls v hJ => absurd hJ.2.2.1 (by decide))
  obtain ⟨⟨x5, x6, rfl⟩, hv, hi8, hno⟩ := hJ
  subst hv
  by_cases e : i = 8
  · subst e
    have h0L : L = 0 := hL0.symm.trans (len_zero hno)
    refine h_s rfl ?_
    refine h_k (y := 9) rfl rfl ?_
    refine hN_ge (b := 9) rfl rfl rfl rfl (by omega) (by omega) (fun h48 => ?_) (fun h48 => absurd (by omega) h48)
    refine h_s rfl ?_
    refine h_k (y := 8) rfl rfl ?_
    refine hN_le (b := 8) rfl rfl rfl rfl (by omega) (by omega) (fun h129 => absurd h129 (by omega)) (fun h129 => ?_)
    refine h_s rfl ?_
    refine h_k (y := (-1000004)) rfl rfl ?_
    refine hq_v rfl rfl rfl a54 rfl rfl (m_finds RC 3 (by omega) _ (by decide)) (fun v9 w9 q9 => ?_)
    obtain ⟨rfl, q2, q3⟩ := q9
    refine h_n (st2 := [_]) rfl ?_
    refine h_s rfl ?_
    refine h_ri rfl rfl ?_
    rw [if_pos h0L]
    exact ⟨rfl, q2, q3⟩
  · have hi8 : i < 8 := by omega
    refine h_s rfl ?_
    refine h_k (y := 9) rfl rfl ?_
    refine hN_ge (b := 9) rfl rfl rfl rfl (by omega) (by omega) (fun h48 => absurd h48 (by omega)) (fun h48 => ?_)
    iterate 2 refine h_s rfl ?_
    refine h_c rfl (m_has h (by omega)) ?_
    refine h_t (y := z01 (wkB s n h (i + 1) h)) (by rw [bt_bs _ _ _ (by decide) (by omega), decide_eq_true (by omega), Bool.true_and]) ?_
    refine h_n (st2 := [_]) rfl ?_
    refine hz_ne rfl rfl (fun h56 => ?_) (fun h56 => ?_)
    · refine h_s rfl ?_
      refine h_k (y := 8) rfl rfl ?_
      refine hN_le (b := 8) rfl rfl rfl rfl (by omega) (by omega) (fun h129 => ?_) (fun h129 => absurd (by omega) h129)
      refine h_s rfl ?_
      have hL1 : L = i + 1 := hL0.symm.trans (len_first h56 hno 8 (by omega))
      refine h_ri rfl rfl ?_
      rw [if_neg (by omega), hL1]
      exact MP.same R0 _
    · refine h_k (y := 0) rfl rfl ?_
      refine h_s rfl ?_
      refine h_k (y := 0) rfl rfl ?_
      refine h_s rfl ?_
      refine h_loop0 n (fun j ls v2 => ls = [some (.ref 54), some (.int (nI h)), some (.int (((1 : Int32) <<< (nI n &&& 31)) - 1)), some (.int (bs (wkB s n h (i + 1)) 8)), some (.int (nI (i + 1))), some (.int (bs (namB s j (wkB s n h (i + 1))) 8)), some (.int (nI j))] ∧ w = v2) ⟨by rw [show bs (namB s 0 (wkB s n h (i + 1))) 8 = 0 from (bs_zero (by decide)).mpr (fun _ _ => rfl)]; rfl, rfl⟩ (fun j ls v2 hj hJ ih2 => ?_) (fun ls v2 hJ => ?_)
      · obtain ⟨rfl, hv⟩ := hJ
        subst hv
        iterate 2 refine h_s rfl ?_
        refine h_gf rfl rfl rfl a54 rfl ?_
        refine h_k (y := 0) rfl rfl ?_
        refine h_ia (0) rfl a55 (by omega) rfl (by omega) ?_
        refine h_t h0 ?_
        refine hN_ge rfl rfl rfl rfl (by omega) (by omega) (fun h73 => absurd h73 (by omega)) (fun h73 => ?_)
        iterate 3 refine h_s rfl ?_
        refine h_c rfl (m_has j (by omega)) ?_
        refine h_t (y := z01 (wkB s n h (i + 1) j)) (by rw [bt_bs _ _ _ (by decide) (by omega), decide_eq_true (by omega), Bool.true_and]) ?_
        refine h_n (st2 := [_, _]) rfl ?_
        refine hz_eq rfl rfl (fun h84 => ?_) (fun h84 => ?_)
        · refine h_k (y := 0) rfl rfl ?_
          iterate 2 refine h_s rfl ?_
          refine h_ii rfl rfl rfl ?_
          refine h_s rfl ?_
          exact ih2 _ _ ⟨by rw [show bs (namB s (j + 1) (wkB s n h (i + 1))) 8 = bs (namB s j (wkB s n h (i + 1))) 8 ||| 0 from (nam_same h84).symm.trans (or_0 _).symm]; rfl, rfl⟩
        · iterate 2 refine h_s rfl ?_
          refine h_k (y := 2) rfl rfl ?_
          refine h_cv rfl rfl rfl a54 rfl rfl (m_its M j 2 (by omega) (by decide) rfl rfl) ?_
          refine h_n (st2 := [_, _]) rfl ?_
          refine h_k (y := 1) rfl rfl ?_
          iterate 2 refine h_s rfl ?_
          refine h_k (y := (-1)) rfl rfl ?_
          iterate 5 refine h_s rfl ?_
          refine h_ii rfl rfl rfl ?_
          refine h_s rfl ?_
          exact ih2 _ _ ⟨by rw [← nam_next (I.1 j hj).2.2.1 (by omega) h84]; rfl, rfl⟩
      · obtain ⟨rfl, hv⟩ := hJ
        subst hv
        iterate 2 refine h_s rfl ?_
        refine h_gf rfl rfl rfl a54 rfl ?_
        refine h_k (y := 0) rfl rfl ?_
        refine h_ia (0) rfl a55 (by omega) rfl (by omega) ?_
        refine h_t h0 ?_
        refine hN_ge rfl rfl rfl rfl (by omega) (by omega) (fun h73 => ?_) (fun h73 => absurd (by omega) h73)
        iterate 2 refine h_s rfl ?_
        refine h_s rfl ?_
        refine h_t (y := (bs (wkB s n h (i + 1 + 1)) 8)) ?_ ?_
        · rw [hall, bs_mask hn, nam_bs hn]
          rfl
        refine h_s rfl ?_
        refine h_ii rfl rfl rfl ?_
        refine h_s rfl ?_
        refine ih _ _ ⟨⟨_, _, rfl⟩, rfl, by omega, fun j hj => ?_⟩
        by_cases e2 : j = i
        · rw [e2]
          exact h56
        · exact hno j (by omega)
end RGM
