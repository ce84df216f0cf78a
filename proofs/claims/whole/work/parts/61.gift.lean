/-! LEAVES given for a try: what both find; helps, needs, law of the class -/
/-- h lets f in, if its leave names f (b) -/
def lwB (s : List Int32) (h f : Nat) (c : Int32) (b : Bool) : Bool := if h = f then true else admV (fld s h 0) c (hourB s h c) (b && hourB s h c) (b && hourB s h c && decide (c < 20)) (bt (fld s h 5) f)
theorem letV_w (s : List Int32) (h f : Nat) (c lv : Int32) : letV s h f c lv = lwB s h f c (bt lv f) := rfl
theorem letB_w (s : List Int32) (h f : Nat) (c : Int32) : letB s h f c = lwB s h f c (bt (fld s h 2) f) := rfl
theorem lw_mono {s : List Int32} {h f : Nat} {c : Int32} (q : lwB s h f c false = true) : lwB s h f c true = true := by
  unfold lwB admV at *
  by_cases e : h = f
  · rw [if_pos e]
  · rw [if_neg e] at q ⊢
    simp only [Bool.false_and, Bool.true_and] at q ⊢
    repeat' split at q
    all_goals simp_all
theorem lw_or {s : List Int32} {h f : Nat} {c : Int32} (a b : Bool) : lwB s h f c (a || b) = (lwB s h f c a || (b && lwB s h f c true)) := by
  cases a
  · cases b
    · simp
    · cases q : lwB s h f c false
      · simp
      · rw [Bool.or_true, lw_mono q]; rfl
  · rw [Bool.true_or]
    cases b <;> cases lwB s h f c true <;> rfl
/-- the houses that let f in only with leave -/
def usB (s : List Int32) (n f : Nat) (c : Int32) (h : Nat) : Bool := decide (h < n) && (lwB s h f c true && !letB s h f c)
/-- f is off, if the houses of q let it in -/
def offQ (s : List Int32) (n f : Nat) (q : Nat → Bool) : Bool := decide (wayL (adjB s n) (fun r => q (r / 2)) evB (homeN s f) = 0)
theorem adjB_cong {s s' : List Int32} {n : Nat} (hd : ∀ d, dB s' d = dB s d) (hf : ∀ g, fld s' g 1 = fld s g 1) : adjB s' n = adjB s n := by
  funext r q
  unfold adjB stB
  simp only [hd, hf]
theorem give_2 {s : List Int32} {q : Nat → Bool} {f h : Nat} (hl : s.length = 90) : ∀ i, i ≤ 8 → h < i → fld (giveS s q f i) h 2 = fld s h 2 ||| (if q h then (1 : Int32) <<< (nI f &&& 31) else 0)
  | 0, _, hh => absurd hh (by omega)
  | i + 1, h8, hh => by
    rw [giveS]
    by_cases e : h = i
    · subst e
      rw [fld_l, gD_eq (by rw [give_l]; omega)]
    · rw [fld_ne (by omega), give_2 hl i (by omega) (by omega)]
theorem give_f {s : List Int32} {q : Nat → Bool} {f h k n : Nat} (hk : k < 8) (h2 : k ≠ 2) : fld (giveS s q f n) h k = fld s h k := give_D s q f n (fun h' _ => by omega)
theorem let_give {s : List Int32} {q : Nat → Bool} {f h n : Nat} {c : Int32} (hl : s.length = 90) (hn : n ≤ 8) (hh : h < n) (hf : f < 8) : letB (giveS s q f n) h f c = (letB s h f c || (q h && lwB s h f c true)) := by
  have e : letB (giveS s q f n) h f c = lwB s h f c (bt (fld (giveS s q f n) h 2) f) := by
    rw [letB_w]
    unfold lwB hourB
    rw [give_f (k := 0) (by decide) (by decide), give_f (k := 3) (by decide) (by decide), give_f (k := 4) (by decide) (by decide), give_f (k := 5) (by decide) (by decide)]
  rw [e, give_2 hl n hn hh, b_or, letB_w]
  have e2 : bt (if q h then (1 : Int32) <<< (nI f &&& 31) else 0) f = q h := by
    cases q h
    · exact b_0 f
    · rw [if_pos rfl, b_sh (by omega) (by omega)]; exact decide_eq_true rfl
  rw [e2, lw_or]
theorem offG_Q {s : List Int32} {n f : Nat} {c x : Int32} (hl : s.length = 90) (hn : n ≤ 8) (hf : f < 8) : offG s n f c x = offQ s n f (fun h => lqB s n f c h || (bt x h && usB s n f c h)) := by
  unfold offG offB wayF offQ
  have e1 : adjB (giveS s (bt x) f n) n = adjB s n := adjB_cong (fun d => by unfold dB; rw [give_D s (bt x) f n (fun h _ => by omega)]) (fun g => give_f (by decide) (by decide))
  have e2 : homeN (giveS s (bt x) f n) f = homeN s f := by
    unfold homeN bedN
    rw [give_f (k := 7) (by decide) (by decide)]
  have e3 : opB (giveS s (bt x) f n) n f c = fun r => lqB s n f c (r / 2) || (bt x (r / 2) && usB s n f c (r / 2)) := by
    funext r
    unfold opB lqB usB
    by_cases h : r / 2 < n
    · rw [decide_eq_true h, let_give hl hn h hf]
      cases letB s (r / 2) f c <;> cases bt x (r / 2) <;> cases lwB s (r / 2) f c true <;> rfl
    · rw [decide_eq_false h]
      cases bt x (r / 2) <;> rfl
  rw [← way_ev hn, e1, e2, e3]
theorem offQ_cong {s : List Int32} {n f : Nat} {q q' : Nat → Bool} (h : ∀ i, q i = q' i) : offQ s n f q = offQ s n f q' := by rw [show q = q' from funext h]
theorem offB_Q {s : List Int32} {n f : Nat} {c : Int32} (hn : n ≤ 8) : offB s n f c = offQ s n f (lqB s n f c) := by
  unfold offB wayF offQ
  rw [← way_ev hn]
  rfl
theorem wB_op_mono {adj : Nat → Nat → Bool} {op op' st : Nat → Bool} (h : ∀ i, op i = true → op' i = true) : ∀ k i, wB adj op st k i = true → wB adj op' st k i = true
  | 0, _, q => q
  | k + 1, i, q => by
    unfold wB at q ⊢
    simp only [Bool.and_eq_true, Bool.or_eq_true, anyR_iff] at q ⊢
    refine ⟨h i q.1, q.2.imp id ?_⟩
    rintro ⟨r, h1, h2, h3⟩
    exact ⟨r, h1, wB_op_mono h k r h2, h3⟩
/-- the more let in, the less is off -/
theorem offQ_mono {s : List Int32} {n f : Nat} {q q' : Nat → Bool} (hr : homeN s f < 16) (h : ∀ i, q i = true → q' i = true) (ho : offQ s n f q' = true) : offQ s n f q = true := by
  unfold offQ at ho ⊢
  refine decide_eq_true ?_
  have h0 := of_decide_eq_true ho
  rcases wayL_len (adj := adjB s n) (op := fun r => q' (r / 2)) (st := evB) hr with ⟨_, h1⟩ | ⟨h1, _⟩
  · refine isLen_inj (wayL_len hr) (Or.inl ⟨rfl, fun k => ?_⟩)
    cases e : wB (adjB s n) (fun r => q (r / 2)) evB k (homeN s f) with
    | false => rfl
    | true =>
      have := wB_op_mono (op' := fun r => q' (r / 2)) (fun i hi => h _ hi) _ _ e
      rw [h1 k] at this
      cases this
  · omega
theorem inn_256 : ∀ m, m < 256 → ∀ i, i < 32 → 8 ≤ i → bt (nI m) i = false := by decide +kernel
theorem nI_bs {m : Nat} (hm : m < 256) : nI m = bs (bt (nI m)) 8 := bs_of (by decide) (fun i h1 h2 => inn_256 m hm i h2 h1)
theorem lt_pow : ∀ n, n ≤ 8 → ∀ k, k < 256 → (∀ h, h < 8 → n ≤ h → bt (nI k) h = false) → k < 2 ^ n := by decide +kernel
/-- the set of the class: out of all the smaller ones -/
def fwN (g : Nat → Nat) (Q : Nat → Bool) (U : Nat) : Nat → Nat
  | 0 => U
  | i + 1 => if g (i + 1) < g (fwN g Q U i) ∧ Q (i + 1) = true then i + 1 else fwN g Q U i
theorem fw_ok {g : Nat → Nat} {Q : Nat → Bool} {U : Nat} (hU : Q U = true) : ∀ i, Q (fwN g Q U i) = true ∧ (fwN g Q U i = U ∨ (1 ≤ fwN g Q U i ∧ fwN g Q U i ≤ i ∧ g (fwN g Q U i) < g U)) ∧ (∀ m, 1 ≤ m → m ≤ i → Q m = true → g (fwN g Q U i) ≤ g m) ∧ (∀ m, 1 ≤ m → m ≤ i → m < fwN g Q U i → Q m = true → fwN g Q U i ≠ U → g (fwN g Q U i) < g m) ∧ g (fwN g Q U i) ≤ g U
  | 0 => ⟨hU, Or.inl rfl, fun m h1 h2 => by omega, fun m h1 h2 => by omega, Nat.le_refl _⟩
  | i + 1 => by
    obtain ⟨h1, h2, h3, h4, h5⟩ := fw_ok (g := g) hU i
    rw [fwN]
    by_cases h : g (i + 1) < g (fwN g Q U i) ∧ Q (i + 1) = true
    · rw [if_pos h]
      refine ⟨h.2, Or.inr ⟨by omega, by omega, by omega⟩, fun m hm1 hm2 hm3 => ?_, fun m hm1 hm2 hm3 hm4 _ => ?_, by omega⟩
      · by_cases e : m = i + 1
        · rw [e]; exact Nat.le_refl _
        · have := h3 m hm1 (by omega) hm3; omega
      · have := h3 m hm1 (by omega) hm4; omega
    · rw [if_neg h]
      refine ⟨h1, h2.imp id (fun q => ⟨q.1, by omega, q.2.2⟩), fun m hm1 hm2 hm3 => ?_, fun m hm1 hm2 hm3 hm4 hm5 => ?_, h5⟩
      · by_cases e : m = i + 1
        · subst e
          rcases Nat.lt_or_ge (g (i + 1)) (g (fwN g Q U i)) with q | q
          · exact absurd ⟨q, hm3⟩ h
          · exact q
        · exact h3 m hm1 (by omega) hm3
      · by_cases e : m = i + 1
        · rcases h2 with q | q
          · exact absurd q hm5
          · omega
        · exact h4 m hm1 (by omega) hm3 hm4 hm5
theorem bestD_p {p : Nat → Bool} {g : Nat → Nat} {k : Nat} : ∀ {N : Nat}, (bestD p g N).1 = nI k → k < N → N < 2 ^ 30 → p k = true
  | 0, h, hk, _ => absurd hk (by omega)
  | N + 1, h, hk, hN => by
    rw [bestD] at h
    split at h
    · rename_i q
      have e : N = k := (nI_eq (by omega) (by omega)).mp h
      rw [← e]; exact q.1
    · rcases bestD_ok (p := p) (g := g) (m := N) with q | ⟨j, k1, k2, k3⟩
      · rw [q] at h
        exact absurd (show (-1 : Int32) < 0 by decide) (by rw [h]; exact nI_pos (by omega))
      · have e : j = k := (nI_eq (by omega) (by omega)).mp (k2.symm.trans h)
        exact bestD_p h (by omega) (by omega)
theorem bestD_iff {p : Nat → Bool} {g : Nat → Nat} {M : Nat} (hp : p M = true) : ∀ {N : Nat}, N < 2 ^ 30 → M < N → (∀ m, m < N → p m = true → g M ≤ g m) → (∀ m, m < M → p m = true → g M < g m) → bestD p g N = (nI M, g M)
  | 0, _, h, _, _ => absurd h (by omega)
  | N + 1, hN, h, h1, h2 => by
    rw [bestD]
    by_cases e : M = N
    · subst e
      have hq : (bestD p g M).1 < 0 ∨ g M < (bestD p g M).2 := by
        rcases bestD_ok (p := p) (g := g) (m := M) with q | ⟨k, k1, k2, k3⟩
        · rw [q]; exact Or.inl (by decide)
        · refine Or.inr ?_
          rw [k3]
          exact h2 k k1 (bestD_p k2 k1 (by omega))
      exact if_pos ⟨hp, hq⟩
    · have ih := bestD_iff hp (N := N) (by omega) (by omega) (fun m hm => h1 m (by omega)) h2
      rw [ih, if_neg]
      rintro ⟨q1, q2 | q2⟩
      · exact nI_pos (by omega) q2
      · have := h1 N (by omega) q1
        dsimp only at q2
        omega
theorem bestD_none {p : Nat → Bool} {g : Nat → Nat} : ∀ {N : Nat}, (∀ m, m < N → p m = false) → bestD p g N = (-1, 0)
  | 0, _ => rfl
  | N + 1, h => by
    rw [bestD, bestD_none (fun m hm => h m (by omega)), if_neg (fun q => by rw [h N (by omega)] at q; exact absurd q.1 (by decide))]
theorem ne_bit {k F : Nat} (hne : k ≠ F) (hk : k < 256) (hF : F < 256) (hs : ∀ j, j < 8 → bt (nI k) j = true → bt (nI F) j = true) : ∃ j, j < 8 ∧ bt (nI k) j = false ∧ bt (nI F) j = true := by
  apply Classical.byContradiction
  intro q
  apply hne
  refine (nI_eq (by omega) (by omega)).mp ?_
  rw [nI_bs hk, nI_bs hF]
  refine bs_cong (fun j hj => ?_)
  cases e : bt (nI k) j with
  | true => exact (hs j hj e).symm
  | false =>
    cases e2 : bt (nI F) j with
    | false => rfl
    | true => exact absurd ⟨j, hj, e, e2⟩ q
section ND
variable {s : List Int32} {n f : Nat} {c : Int32}
def ndP (s : List Int32) (n f : Nat) (c : Int32) (m : Nat) : Bool := !offQ s n f (fun h => lqB s n f c h || (bt (nI m) h && usB s n f c h))
def cn8 (m : Nat) : Nat := cntR (bt (nI m)) 8
/-- m is of the useful ones and helps -/
def ndQ (s : List Int32) (n f : Nat) (c : Int32) (m : Nat) : Bool := !anyR (fun h => bt (nI m) h && !usB s n f c h) 8 && !offQ s n f (fun h => lqB s n f c h || (bt (nI m) h && decide (h < 8)))
theorem ndP_cong {m k : Nat} (hm : m < 256) (hk : k < 256) (h : ∀ i, i < 8 → (bt (nI m) i && usB s n f c i) = (bt (nI k) i && usB s n f c i)) (hn : n ≤ 8) : ndP s n f c m = ndP s n f c k := by
  unfold ndP
  rw [offQ_cong (fun i => ?_)]
  by_cases hi : i < 8
  · rw [h i hi]
  · have : usB s n f c i = false := by unfold usB; rw [decide_eq_false (by omega), Bool.false_and]
    rw [this, Bool.and_false, Bool.and_false]
theorem us_lt (hn : n ≤ 8) {h : Nat} (q : usB s n f c h = true) : h < n := by
  unfold usB at q
  simp only [Bool.and_eq_true, decide_eq_true_eq] at q
  exact q.1
theorem sub_iff {m : Nat} : anyR (fun h => bt (nI m) h && !usB s n f c h) 8 = false ↔ ∀ h, h < 8 → bt (nI m) h = true → usB s n f c h = true := by
  rw [Bool.eq_false_iff, ne_eq, anyR_iff]
  constructor
  · intro q h hh hb
    cases e : usB s n f c h with
    | true => rfl
    | false => exact absurd ⟨h, hh, by rw [hb, e]; rfl⟩ q
  · rintro q ⟨h, hh, hb⟩
    simp only [Bool.and_eq_true, Bool.not_eq_true'] at hb
    rw [q h hh hb.1] at hb
    exact absurd hb.2 (by decide)
theorem ndQ_P (hn : n ≤ 8) {m : Nat} (q : ∀ h, h < 8 → bt (nI m) h = true → usB s n f c h = true) : ndQ s n f c m = ndP s n f c m := by
  unfold ndQ ndP
  rw [sub_iff.mpr q, Bool.not_false, Bool.true_and]
  refine congrArg (fun b => !b) (offQ_cong (fun i => ?_))
  refine congrArg (fun b => lqB s n f c i || b) ?_
  by_cases hi : i < 8
  · rw [decide_eq_true hi, Bool.and_true]
    cases h : bt (nI m) i with
    | false => rfl
    | true => rw [q i hi h]; rfl
  · rw [decide_eq_false hi, Bool.and_false]
    cases h : usB s n f c i with
    | false => rw [Bool.and_false]
    | true => exact absurd (us_lt hn h) (by omega)
theorem need_E (hl : s.length = 90) (hn : n ≤ 8) (hf : f < 8) : needB s n f c = bestD (ndP s n f c) cn8 (2 ^ n) := by
  have e : (fun m => !offG s n f c (nI m)) = ndP s n f c := funext (fun m => by rw [offG_Q hl hn hf]; rfl)
  unfold needB
  rw [e]
  rfl
theorem cn8_0 : cn8 0 = 0 := by decide
/-- not off: nothing is needed -/
theorem need_0 (hl : s.length = 90) (hn : n ≤ 8) (hf : f < 8) (h : offQ s n f (lqB s n f c) = false) : (needB s n f c).1 = 0 := by
  rw [need_E hl hn hf, bestD_iff (M := 0) (p := ndP s n f c) ?_ (Nat.lt_of_le_of_lt (pw_n n hn) (by decide)) (Nat.two_pow_pos n) (fun m _ _ => by rw [cn8_0]; omega) (fun m hm => absurd hm (by omega))]
  · rfl
  · unfold ndP
    rw [offQ_cong (q' := lqB s n f c) (fun i => by rw [show nI 0 = 0 from rfl, b_0]; simp), h]
    rfl
/-- with all of them: off still -/
theorem need_m (hl : s.length = 90) (hn : n ≤ 8) (hf : f < 8) (hr : homeN s f < 16) (h : offQ s n f (fun i => lqB s n f c i || usB s n f c i) = true) : (needB s n f c).1 = -1 := by
  rw [need_E hl hn hf, bestD_none]
  intro m _
  unfold ndP
  rw [offQ_mono hr (fun i q => ?_) h]
  · rfl
  · simp only [Bool.or_eq_true, Bool.and_eq_true] at q ⊢
    exact q.imp id (fun q => q.2)
theorem need_k (hl : s.length = 90) (hn : n ≤ 8) (hf : f < 8) (h0 : offQ s n f (lqB s n f c) = true) (h : offQ s n f (fun i => lqB s n f c i || usB s n f c i) = false) {U : Nat} (hU : U < 256) (hUb : bs (usB s n f c) 8 = nI U) : fwN cn8 (ndQ s n f c) U 255 < 256 ∧ (needB s n f c).1 = nI (fwN cn8 (ndQ s n f c) U 255) ∧ ∀ i, i < 8 → bt (nI U) i = usB s n f c i := by
  have hUi : ∀ i, i < 8 → bt (nI U) i = usB s n f c i := fun i hi => by
    rw [← hUb, bt_bs _ _ _ (by decide) (by omega), decide_eq_true hi, Bool.true_and]
  have hQU : ndQ s n f c U = true := by
    rw [ndQ_P hn (fun i hi q => by rw [← hUi i hi]; exact q)]
    unfold ndP
    rw [offQ_cong (q' := fun i => lqB s n f c i || usB s n f c i) (fun i => ?_), h]
    · rfl
    · refine congrArg (fun b => lqB s n f c i || b) ?_
      by_cases hi : i < 8
      · rw [hUi i hi]; cases usB s n f c i <;> rfl
      · cases q : usB s n f c i with
        | false => rw [Bool.and_false]
        | true => exact absurd (us_lt hn q) (by omega)
  obtain ⟨f1, f2, f3, f4, f5⟩ := fw_ok (g := cn8) hQU 255
  obtain ⟨F, hF⟩ : ∃ F, fwN cn8 (ndQ s n f c) U 255 = F := ⟨_, rfl⟩
  rw [hF] at f1 f2 f3 f4 f5 ⊢
  have hF256 : F < 256 := by rcases f2 with q | q <;> omega
  have hsub : ∀ i, i < 8 → bt (nI F) i = true → usB s n f c i = true := by
    unfold ndQ at f1
    simp only [Bool.and_eq_true, Bool.not_eq_true'] at f1
    exact sub_iff.mp f1.1
  have hPF : ndP s n f c F = true := by rw [← ndQ_P hn hsub]; exact f1
  have hFn : F < 2 ^ n := lt_pow n hn F hF256 (fun i hi hni => by
    cases q : bt (nI F) i with
    | false => rfl
    | true => exact absurd (us_lt hn (hsub i hi q)) (by omega))
  have hP0 : ndP s n f c 0 = false := by
    unfold ndP
    rw [offQ_cong (q' := lqB s n f c) (fun i => by rw [show nI 0 = 0 from rfl, b_0]; simp), h0]
    rfl
  -- the part of m that is useful
  have part : ∀ m, m < 2 ^ n → ndP s n f c m = true → ∃ k, 1 ≤ k ∧ k < 256 ∧ ndQ s n f c k = true ∧ cn8 k ≤ cn8 m ∧ ((∃ i, i < 8 ∧ bt (nI m) i = true ∧ usB s n f c i = false) → cn8 k < cn8 m) ∧ ((∀ i, i < 8 → bt (nI m) i = true → usB s n f c i = true) → k = m) := by
    intro m hm hp
    have hm256 : m < 256 := Nat.lt_of_lt_of_le hm (pw_n n hn)
    obtain ⟨k, hk, e1, e2⟩ := ones_set (p := fun i => bt (nI m) i && usB s n f c i) (m := 8) (by decide)
    have hkb : ∀ i, i < 8 → bt (nI k) i = (bt (nI m) i && usB s n f c i) := fun i hi => by
      rw [← e1, bt_bs _ _ _ (by decide) (by omega), decide_eq_true hi, Bool.true_and]
    have hPk : ndP s n f c k = true := by
      rw [ndP_cong hk hm256 (fun i hi => by rw [hkb i hi]; cases bt (nI m) i <;> cases usB s n f c i <;> rfl) hn]
      exact hp
    refine ⟨k, ?_, hk, ?_, ?_, ?_, ?_⟩
    · rcases Nat.eq_zero_or_pos k with q | q
      · rw [q, hP0] at hPk; cases hPk
      · exact q
    · rw [ndQ_P hn (fun i hi q => by rw [hkb i hi] at q; simp at q; exact q.2)]
      exact hPk
    · exact cntR_sub (fun i hi q => by rw [hkb i hi] at q; simp at q; exact q.1)
    · rintro ⟨i, hi, q1, q2⟩
      refine cntR_lt (fun j hj q => by rw [hkb j hj] at q; simp at q; exact q.1) hi ?_ q1
      rw [hkb i hi, q2, Bool.and_false]
    · intro q
      refine (nI_eq (by omega) (by omega)).mp ?_
      rw [nI_bs hk, nI_bs hm256]
      refine bs_cong (fun i hi => ?_)
      rw [hkb i hi]
      cases e : bt (nI m) i with
      | false => rfl
      | true => rw [q i hi e]; rfl
  refine ⟨hF256, ?_, hUi⟩
  rw [need_E hl hn hf, bestD_iff hPF (Nat.lt_of_le_of_lt (pw_n n hn) (by decide)) hFn (fun m hm hp => ?_) (fun m hm hp => ?_)]
  · obtain ⟨k, k1, k2, k3, k4, -⟩ := part m hm hp
    have := f3 k k1 (by omega) k3
    omega
  · obtain ⟨k, k1, k2, k3, k4, k5, k6⟩ := part m (by omega) hp
    by_cases hs : ∀ i, i < 8 → bt (nI m) i = true → usB s n f c i = true
    · have e := k6 hs
      subst e
      rcases f2 with q | ⟨q1, q2, q3⟩
      · subst q
        obtain ⟨j, hj, e1, e2⟩ := ne_bit (show k ≠ F by omega) k2 hU (fun j hj q => by rw [hUi j hj]; exact hs j hj q)
        have hlt : cn8 k < cn8 F := cntR_lt (fun j hj q => by rw [hUi j hj]; exact hs j hj q) hj e1 e2
        have := f3 k k1 (by omega) k3
        omega
      · by_cases hFU : F = U
        · rw [hFU] at q3; omega
        · exact f4 k k1 (by omega) hm k3 hFU
    · have hs2 : ∃ i, i < 8 ∧ bt (nI m) i = true ∧ usB s n f c i = false := by
        apply Classical.byContradiction
        intro q
        apply hs
        intro i hi hb
        cases e : usB s n f c i with
        | true => rfl
        | false => exact absurd ⟨i, hi, hb, e⟩ q
      have h7 := k5 hs2
      have := f3 k k1 (by omega) k3
      omega
end ND
