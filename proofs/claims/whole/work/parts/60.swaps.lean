/-! SWAPS, in both -/
def itN (b : Nat → Nat) : Nat → Nat → Nat
  | 0, f => f
  | j + 1, f => b (itN b j f)
/-- met in the first m steps from f -/
def visB (b : Nat → Nat) (f m i : Nat) : Bool := anyR (fun j => decide (itN b j f = i)) m
def orbB (b : Nat → Nat) (n f i : Nat) : Bool := visB b f n i
def seenB (b : Nat → Nat) (n : Nat) : Nat → Nat → Bool
  | 0, _ => false
  | f + 1, i => seenB b n f i || (!seenB b n f f && orbB b n f i)
def ringsN (b : Nat → Nat) (n m : Nat) : Nat := cntR (fun f => !seenB b n f f) m
def imgB (b : Nat → Nat) (m i : Nat) : Bool := anyR (fun f => decide (b f = i)) m
section SW
variable {b : Nat → Nat} {n : Nat}
theorem it_add (a c f : Nat) : itN b (a + c) f = itN b a (itN b c f) := by
  induction a with
  | zero => rw [Nat.zero_add]; rfl
  | succ a ih => rw [show a + 1 + c = (a + c) + 1 by omega, itN, ih]; rfl
theorem it_lt (hb : ∀ f, f < n → b f < n) {f : Nat} (hf : f < n) : ∀ j, itN b j f < n
  | 0 => hf
  | j + 1 => hb _ (it_lt hb hf j)
theorem vis_iff {f m i : Nat} : visB b f m i = true ↔ ∃ j, j < m ∧ itN b j f = i := by
  unfold visB
  rw [anyR_iff]
  simp only [decide_eq_true_eq]
theorem vis_cnt (hb : ∀ f, f < n → b f < n) {f : Nat} (hf : f < n) : ∀ {m : Nat}, (∀ j, j < m → visB b f j (itN b j f) = false) → m ≤ cntR (visB b f m) n
  | 0, _ => Nat.zero_le _
  | m + 1, h => by
    have h1 := vis_cnt hb hf (m := m) (fun j hj => h j (by omega))
    have h2 : cntR (visB b f m) n < cntR (visB b f (m + 1)) n := by
      refine cntR_lt (fun i _ q => ?_) (it_lt hb hf m) (h m (by omega)) (vis_iff.mpr ⟨m, by omega, rfl⟩)
      obtain ⟨j, h3, h4⟩ := vis_iff.mp q
      exact vis_iff.mpr ⟨j, by omega, h4⟩
    omega
theorem vis_stop (hb : ∀ f, f < n → b f < n) {f : Nat} (hf : f < n) (h : ∀ j, j < n + 1 → visB b f j (itN b j f) = false) : False := by
  have h1 := vis_cnt hb hf h
  have h2 := cntR_le (visB b f (n + 1)) n
  omega
theorem vis_all {f K : Nat} (h : visB b f K (itN b K f) = true) : ∀ m, visB b f K (itN b m f) = true := by
  obtain ⟨t, ht, e⟩ := vis_iff.mp h
  intro m
  induction m using Nat.strongRecOn with
  | ind m ih =>
    by_cases hm : m < K
    · exact vis_iff.mpr ⟨m, hm, rfl⟩
    · have e2 : itN b m f = itN b (m - K + t) f := by
        rw [it_add, e, ← it_add, show m - K + K = m by omega]
      rw [e2]
      exact ih _ (by omega)
theorem orb_stop {f K : Nat} (hK : K ≤ n) (h : visB b f K (itN b K f) = true) (i : Nat) : visB b f K i = orbB b n f i := by
  rw [Bool.eq_iff_iff]
  constructor
  · intro q
    obtain ⟨j, h1, h2⟩ := vis_iff.mp q
    exact vis_iff.mpr ⟨j, by omega, h2⟩
  · intro q
    obtain ⟨j, h1, rfl⟩ := vis_iff.mp q
    exact vis_all h j
theorem stop_ex (hb : ∀ f, f < n → b f < n) {f : Nat} (hf : f < n) : ∃ K, K ≤ n ∧ visB b f K (itN b K f) = true := by
  apply Classical.byContradiction
  intro h
  refine vis_stop hb hf (fun j hj => ?_)
  cases e : visB b f j (itN b j f) with
  | false => rfl
  | true => exact absurd ⟨j, by omega, e⟩ h
theorem orb_it (hb : ∀ f, f < n → b f < n) {f : Nat} (hf : f < n) (m : Nat) : orbB b n f (itN b m f) = true := by
  obtain ⟨K, h1, h2⟩ := stop_ex hb hf
  rw [← orb_stop h1 h2]
  exact vis_all h2 m
theorem orb_cl (hb : ∀ f, f < n → b f < n) {f i : Nat} (hf : f < n) (h : orbB b n f i = true) : i < n ∧ orbB b n f (b i) = true := by
  obtain ⟨j, h1, rfl⟩ := vis_iff.mp h
  exact ⟨it_lt hb hf j, orb_it hb hf (j + 1)⟩
theorem seen_cl (hb : ∀ f, f < n → b f < n) : ∀ {m i : Nat}, m ≤ n → seenB b n m i = true → i < n ∧ seenB b n m (b i) = true
  | 0, i, _, h => by cases h
  | m + 1, i, hm, h => by
    simp only [seenB, Bool.or_eq_true, Bool.and_eq_true] at h ⊢
    rcases h with h | ⟨h1, h2⟩
    · have := seen_cl hb (by omega) h
      exact ⟨this.1, Or.inl this.2⟩
    · have := orb_cl hb (show m < n by omega) h2
      exact ⟨this.1, Or.inr ⟨h1, this.2⟩⟩
theorem cnt_add1 (p : Nat → Bool) (x : Nat) : ∀ k, cntR (fun i => p i || decide (x = i)) k ≤ cntR p k + 1 ∧ (k ≤ x → cntR (fun i => p i || decide (x = i)) k = cntR p k)
  | 0 => ⟨Nat.zero_le _, fun _ => rfl⟩
  | k + 1 => by
    have ⟨h1, h2⟩ := cnt_add1 p x k
    refine ⟨?_, fun hk => ?_⟩
    · rw [cntR, cntR]
      by_cases e : x = k
      · rw [h2 (by omega)]
        split <;> split <;> omega
      · rw [decide_eq_false e, Bool.or_false]
        split <;> omega
    · rw [cntR, cntR, h2 (by omega), decide_eq_false (by omega), Bool.or_false]
theorem img_le (m k : Nat) : cntR (imgB b m) k ≤ m := by
  induction m with
  | zero =>
    have : cntR (imgB b 0) k = 0 := by
      induction k with
      | zero => rfl
      | succ k ih => rw [cntR, ih]; rfl
    omega
  | succ m ih =>
    have h := (cnt_add1 (imgB b m) (b m) k).1
    have e : imgB b (m + 1) = fun i => imgB b m i || decide (b m = i) := rfl
    rw [e]
    omega
theorem img_inj {f g : Nat} (h : cntR (imgB b n) n = n) (hf : f < g) (hg : g < n) : ¬ b f = b g := by
  intro e
  have h1 : ∀ i, imgB b (g + 1) i = imgB b g i := fun i => by
    show (imgB b g i || decide (b g = i)) = _
    by_cases q : b g = i
    · have : imgB b g i = true := by
        unfold imgB
        rw [anyR_iff]
        exact ⟨f, hf, decide_eq_true (by rw [e, q])⟩
      rw [this]; rfl
    · rw [decide_eq_false q, Bool.or_false]
  have h2 : ∀ m, g + 1 ≤ m → cntR (imgB b m) n + 1 ≤ m := by
    intro m hm
    obtain ⟨d, rfl⟩ := Nat.exists_eq_add_of_le hm
    clear hm
    induction d with
    | zero =>
      rw [Nat.add_zero, show imgB b (g + 1) = imgB b g from funext h1]
      have := img_le (b := b) g n
      omega
    | succ d ih =>
      have h3 := (cnt_add1 (imgB b (g + 1 + d)) (b (g + 1 + d)) n).1
      have e2 : imgB b (g + 1 + (d + 1)) = fun i => imgB b (g + 1 + d) i || decide (b (g + 1 + d) = i) := rfl
      rw [e2]
      omega
  have := h2 n (by omega)
  omega
theorem inj_of (h : cntR (imgB b n) n = n) {f g : Nat} (hf : f < n) (hg : g < n) (e : b f = b g) : f = g := by
  rcases Nat.lt_trichotomy f g with h1 | h1 | h1
  · exact absurd e (img_inj h h1 hg)
  · exact h1
  · exact absurd e.symm (img_inj h h1 hf)
theorem it_cancel (hi : cntR (imgB b n) n = n) (hb : ∀ f, f < n → b f < n) {f : Nat} (hf : f < n) : ∀ {t d : Nat}, itN b (d + t) f = itN b t f → itN b d f = f
  | 0, d, e => e
  | t + 1, d, e => it_cancel hi hb hf (t := t) (inj_of hi (it_lt hb hf _) (it_lt hb hf _) e)
/-- what isn't seen leads to what isn't seen -/
theorem seen_out (hi : cntR (imgB b n) n = n) (hb : ∀ f, f < n → b f < n) {m x : Nat} (hm : m ≤ n) (hx : x < n) (h : seenB b n m x = false) : seenB b n m (b x) = false := by
  cases h1 : seenB b n m (b x) with
  | false => rfl
  | true =>
    exfalso
    obtain ⟨K, hK, hv⟩ := stop_ex hb (hb x hx)
    obtain ⟨t, ht, e⟩ := vis_iff.mp hv
    have e2 : itN b (K - t) (b x) = b x := it_cancel hi hb (hb x hx) (t := t) (by rw [show K - t + t = K by omega]; exact e.symm)
    have e3 : ∀ j, seenB b n m (itN b j (b x)) = true := by
      intro j
      induction j with
      | zero => exact h1
      | succ j ih => exact (seen_cl hb hm ih).2
    have e4 : b (itN b (K - t - 1) (b x)) = b x := by
      have : itN b (K - t - 1 + 1) (b x) = b x := by rw [show K - t - 1 + 1 = K - t by omega]; exact e2
      exact this
    have e5 := inj_of hi (it_lt hb (hb x hx) _) hx e4
    have e6 := e3 (K - t - 1)
    rw [e5, h] at e6
    cases e6
theorem seen_it (hi : cntR (imgB b n) n = n) (hb : ∀ f, f < n → b f < n) {m f : Nat} (hm : m ≤ n) (hf : f < n) (h : seenB b n m f = false) : ∀ j, seenB b n m (itN b j f) = false
  | 0 => h
  | j + 1 => seen_out hi hb hm (it_lt hb hf j) (seen_it hi hb hm hf h j)
theorem bs_vis {f k : Nat} (hk : itN b k f < 8) (S : Nat → Bool) : bs (fun i => S i || visB b f k i) 8 ||| (1 : Int32) <<< (nI (itN b k f) &&& 31) = bs (fun i => S i || visB b f (k + 1) i) 8 :=
  bs_or1 (by decide) hk (fun i _ => by
    show (S i || (visB b f k i || decide (itN b k f = i))) = _
    rw [Bool.or_assoc]
    congr 2
    exact decide_eq_decide.mpr ⟨fun e => e.symm, fun e => e.symm⟩)
theorem cnt_8 {p : Nat → Bool} {n : Nat} (hp : ∀ i, p i = true → i < n) : ∀ k, n ≤ k → cntR p k = cntR p n := by
  intro k hk
  obtain ⟨d, rfl⟩ := Nat.exists_eq_add_of_le hk
  clear hk
  induction d with
  | zero => rfl
  | succ d ih =>
    rw [show n + (d + 1) = n + d + 1 by omega, cntR, ih]
    cases h : p (n + d) with
    | false => rfl
    | true => exact absurd (hp _ h) (by omega)
theorem img_lt (hb : ∀ f, f < n → b f < n) {m i : Nat} (hm : m ≤ n) (h : imgB b m i = true) : i < n := by
  unfold imgB at h
  rw [anyR_iff] at h
  obtain ⟨f, h1, h2⟩ := h
  rw [← of_decide_eq_true h2]
  exact hb f (by omega)
theorem bs_img {m : Nat} (h : b m < 8) : bs (imgB b m) 8 ||| (1 : Int32) <<< (nI (b m) &&& 31) = bs (imgB b (m + 1)) 8 :=
  bs_or1 (by decide) h (fun i _ => by
    show (imgB b m i || decide (b m = i)) = _
    congr 1
    exact decide_eq_decide.mpr ⟨fun e => e.symm, fun e => e.symm⟩)
end SW
/-- how many changes of beds; none: some beds are shared -/
def swapO (s : List Int32) (n : Nat) : Option Nat := if cntR (imgB (bedN s) n) n = n then some (n - ringsN (bedN s) n n) else none
theorem rings_le (b : Nat → Nat) (n m : Nat) : ringsN b n m ≤ m := cntR_le _ _
section SWC
variable {X : List Int32} {w : ab_W} {r n : Nat} {s : List Int32}
set_option maxRecDepth 100000 in
set_option maxHeartbeats 4000000 in
theorem x_bedRound (R : RowW w r s n) (I : SI s n) {f : Nat} (hf : f < n) : ab_M X kX2_bedRound [.ref r, .int (nI f)] w (some (.int (bs (orbB (bedN s) n f) 8))) w := by
  have R0 := R
  obtain ⟨r0, r1, r2, r3, r4, hl, h0, hn⟩ := R
  have hb : ∀ f, f < n → bedN s f < n := fun f hf => (bedN_e I hn hf).2
  show ab_G X kX2_bedRound 0 [some (.ref r), some (.int (nI f)), none, none, none] [] w _ _
  refine ab_k (y := 0) rfl rfl ?_
  iterate 3 refine ab_s rfl ?_
  refine ab_k (y := 0) rfl rfl ?_
  refine ab_s rfl ?_
  refine g_loop0 n (fun i ls => ls = [some (.ref r), some (.int (nI f)), some (.int (bs (visB (bedN s) f (i)) 8)), some (.int (nI (itN (bedN s) i f))), some (.int (nI i))]) (by rw [show bs (visB (bedN s) f 0) 8 = 0 from (bs_zero (by decide)).mpr (fun _ _ => rfl)]; rfl) (fun i ls hi hJ ih => ?_) (fun ls hJ => ?_)
  · obtain rfl := hJ
    have hlt := it_lt hb hf i
    iterate 2 refine ab_s rfl ?_
    refine ab_gf rfl rfl rfl r0 rfl ?_
    refine jN_ge rfl rfl rfl rfl (by omega) (by omega) (fun h13 => absurd h13 (by omega)) (fun h13 => ?_)
    iterate 2 refine ab_s rfl ?_
    refine ab_c rfl (x_isInB (visB (bedN s) f i) (by decide) (show itN (bedN s) i f < 8 by omega)) ?_
    refine ab_n (st2 := [_]) rfl ?_
    refine z1_ne rfl rfl (fun h21 => ?_) (fun h21 => ?_)
    · refine ab_s rfl ?_
      exact ab_ri rfl (bs_cong (fun y _ => orb_stop (by omega) h21 y))
    · refine ab_s rfl ?_
      refine ab_k (y := 1) rfl rfl ?_
      iterate 2 refine ab_s rfl ?_
      refine ab_s rfl ?_
      refine ab_t (y := (bs (visB (bedN s) f (i + 1)) 8)) (bs_vis (show itN (bedN s) i f < 8 by omega) (fun _ => false)) ?_
      iterate 3 refine ab_s rfl ?_
      refine ab_cv rfl rfl rfl r0 rfl rfl (x_bedOf R0 hlt) ?_
      refine ab_t (bedN_e I hn hlt).1 ?_
      refine ab_n (st2 := [_]) rfl ?_
      refine ab_s rfl ?_
      refine ab_ii rfl rfl rfl ?_
      refine ab_s rfl ?_
      exact ih _ rfl
  · obtain rfl := hJ
    iterate 2 refine ab_s rfl ?_
    refine ab_gf rfl rfl rfl r0 rfl ?_
    refine jN_ge rfl rfl rfl rfl (by omega) (by omega) (fun h13 => ?_) (fun h13 => absurd (by omega) h13)
    refine ab_s rfl ?_
    exact ab_ri rfl rfl
end SWC
section SWX
variable {X : List Int32} {w w1 : ab_W} {r : Nat} {s : List Int32} {n : Nat} {st ks : List Int32} {kp : Bool} {tp : List Int32} {tn : Nat} {bo so nu : List Int32}
set_option maxRecDepth 100000 in
set_option maxHeartbeats 4000000 in
theorem x_swaps_k (R : XW w s n st ks kp tp tn bo so nu) (I : SI s n) : ab_Q X kX5_swaps [.ref 0] w (fun v w1 => match swapO s n with | none => XP w (-1000005) s n (bump st 4) ks kp tp tn bo so nu v w1 | some a => XP w (nI a) s n st ks kp tp tn bo so nu v w1) := by
  have R0 := R
  obtain ⟨x0, XR, ⟨sd, nd, XD⟩, ⟨sk, nk, XK, hkp⟩, XPl, XT, XS, x45, xl⟩ := R
  have r0 := XR.1
  have p0 := XPl.1
  have d0 := XD.1
  have hn : n ≤ 8 := XR.2.2.2.2.2.2.2
  have RC := R0
  show ab_H X kX5_swaps 0 [some (.ref 0), none, none, none, none] [] w _
  have hb : ∀ f, f < n → bedN s f < n := fun f hf => (bedN_e I hn hf).2
  have h8 : bs (imgB (bedN s) n) 8 = bs (imgB (bedN s) n) 8 := rfl
  have c8 : cntR (imgB (bedN s) n) 8 = cntR (imgB (bedN s) n) n := cnt_8 (fun i q => img_lt hb (Nat.le_refl n) q) 8 hn
  have cle := cntR_le (imgB (bedN s) n) n
  refine h_k (y := 0) rfl rfl ?_
  refine h_s rfl ?_
  refine h_k (y := 0) rfl rfl ?_
  refine h_s rfl ?_
  refine h_loop0 n (fun i ls v => (∃ x3 x4, ls = [some (.ref 0), some (.int (bs (imgB (bedN s) i) 8)), some (.int (nI i)), x3, x4]) ∧ w = v) ⟨⟨none, none, by rw [show bs (imgB (bedN s) 0) 8 = 0 from (bs_zero (by decide)).mpr (fun _ _ => rfl)]; rfl⟩, rfl⟩ (fun i ls v hi hJ ih => ?_) (fun ls v hJ => ?_)
  · obtain ⟨⟨x3, x4, rfl⟩, hv⟩ := hJ
    subst hv
    iterate 2 refine h_s rfl ?_
    refine h_gf rfl rfl rfl x0 rfl ?_
    refine h_gf rfl rfl rfl r0 rfl ?_
    refine hN_ge rfl rfl rfl rfl (by omega) (by omega) (fun h12 => absurd h12 (by omega)) (fun h12 => ?_)
    refine h_s rfl ?_
    refine h_k (y := 1) rfl rfl ?_
    refine h_s rfl ?_
    refine h_gf rfl rfl rfl x0 rfl ?_
    refine h_s rfl ?_
    refine h_cv rfl rfl rfl r0 rfl rfl (x_bedOf XR hi) ?_
    refine h_t (bedN_e I hn hi).1 ?_
    refine h_n (st2 := [_, _, _]) rfl ?_
    refine h_s rfl ?_
    refine h_s rfl ?_
    refine h_t (bs_img (by have := hb i hi; omega)) ?_
    refine h_s rfl ?_
    refine h_ii rfl rfl rfl ?_
    refine h_s rfl ?_
    exact ih _ _ ⟨⟨_, _, rfl⟩, rfl⟩
  · obtain ⟨⟨x3, x4, rfl⟩, hv⟩ := hJ
    subst hv
    iterate 2 refine h_s rfl ?_
    refine h_gf rfl rfl rfl x0 rfl ?_
    refine h_gf rfl rfl rfl r0 rfl ?_
    refine hN_ge rfl rfl rfl rfl (by omega) (by omega) (fun h12 => ?_) (fun h12 => absurd (by omega) h12)
    refine h_s rfl ?_
    refine h_c rfl (x_bitsB (p := imgB (bedN s) n) (by decide)) ?_
    refine h_n (st2 := [_]) rfl ?_
    refine h_s rfl ?_
    refine h_gf rfl rfl rfl x0 rfl ?_
    refine h_gf rfl rfl rfl r0 rfl ?_
    refine hN_eq rfl rfl rfl rfl (by omega) (by omega) (fun h45 => ?_) (fun h45 => ?_)
    · refine h_k (y := 0) rfl rfl ?_
      refine h_s rfl ?_
      refine h_k (y := 0) rfl rfl ?_
      refine h_s rfl ?_
      refine h_k (y := 0) rfl rfl ?_
      refine h_s rfl ?_
      have hfull : cntR (imgB (bedN s) n) n = n := by omega
      rw [show swapO s n = some (n - ringsN (bedN s) n n) from if_pos hfull]
      refine h_loop0 n (fun i ls v => ls = [some (.ref 0), some (.int (bs (imgB (bedN s) n) 8)), some (.int (nI (ringsN (bedN s) n i))), some (.int (bs (seenB (bedN s) n i) 8)), some (.int (nI i))] ∧ w = v) ⟨by rw [show bs (seenB (bedN s) n 0) 8 = 0 from (bs_zero (by decide)).mpr (fun _ _ => rfl)]; rfl, rfl⟩ (fun i ls v hi hJ ih => ?_) (fun ls v hJ => ?_)
      · obtain ⟨rfl, hv⟩ := hJ
        subst hv
        iterate 2 refine h_s rfl ?_
        refine h_gf rfl rfl rfl x0 rfl ?_
        refine h_gf rfl rfl rfl r0 rfl ?_
        refine hN_ge rfl rfl rfl rfl (by omega) (by omega) (fun h71 => absurd h71 (by omega)) (fun h71 => ?_)
        iterate 2 refine h_s rfl ?_
        refine h_c rfl (x_isInB (seenB (bedN s) n i) (by decide) (show i < 8 by omega)) ?_
        refine h_n (st2 := [_]) rfl ?_
        refine hz_ne rfl rfl (fun h80 => ?_) (fun h80 => ?_)
        · refine h_ii rfl rfl rfl ?_
          refine h_s rfl ?_
          have hs : bs (seenB (bedN s) n (i + 1)) 8 = bs (seenB (bedN s) n i) 8 := bs_cong (fun y _ => by
            show (seenB (bedN s) n i y || (!seenB (bedN s) n i i && orbB (bedN s) n i y)) = _
            rw [h80]; simp)
          have hr : ringsN (bedN s) n (i + 1) = ringsN (bedN s) n i := by
            show cntR _ i + (if (!seenB (bedN s) n i i) then 1 else 0) = _
            rw [h80]; rfl
          exact ih _ _ ⟨by rw [hs, hr]; rfl, rfl⟩
        · refine h_ii rfl rfl rfl ?_
          iterate 2 refine h_s rfl ?_
          refine h_gf rfl rfl rfl x0 rfl ?_
          refine h_s rfl ?_
          refine h_cv rfl rfl rfl r0 rfl rfl (x_bedRound XR I hi) ?_
          refine h_n (st2 := [_, _]) rfl ?_
          iterate 2 refine h_s rfl ?_
          refine h_ii rfl rfl rfl ?_
          refine h_s rfl ?_
          have hs : bs (seenB (bedN s) n (i + 1)) 8 = bs (seenB (bedN s) n i) 8 ||| bs (orbB (bedN s) n i) 8 := by
            rw [bs_or (by decide)]
            exact bs_cong (fun y _ => by
              show (seenB (bedN s) n i y || (!seenB (bedN s) n i i && orbB (bedN s) n i y)) = _
              rw [h80]; simp)
          have hr : ringsN (bedN s) n (i + 1) = ringsN (bedN s) n i + 1 := by
            show cntR _ i + (if (!seenB (bedN s) n i i) then 1 else 0) = _
            rw [h80]; rfl
          exact ih _ _ ⟨by rw [hs, hr]; rfl, rfl⟩
      · obtain ⟨rfl, hv⟩ := hJ
        subst hv
        have hrl := rings_le (bedN s) n n
        iterate 2 refine h_s rfl ?_
        refine h_gf rfl rfl rfl x0 rfl ?_
        refine h_gf rfl rfl rfl r0 rfl ?_
        refine hN_ge rfl rfl rfl rfl (by omega) (by omega) (fun h71 => ?_) (fun h71 => absurd (by omega) h71)
        refine h_s rfl ?_
        refine h_gf rfl rfl rfl x0 rfl ?_
        refine h_gf rfl rfl rfl r0 rfl ?_
        refine h_s rfl ?_
        refine h_Nsub rfl rfl rfl (by omega) ?_
        exact h_ri rfl rfl (XP.same R0 _)
    · refine h_s rfl ?_
      refine h_k (y := (-1000005)) rfl rfl ?_
      refine hq_v rfl rfl rfl x0 rfl rfl (x_found RC 4 (by omega) _ (by decide)) (fun v9 w9 q9 => ?_)
      obtain ⟨rfl, q2, q3⟩ := q9
      refine h_n (st2 := [_]) rfl ?_
      refine h_ri rfl rfl ?_
      rw [show swapO s n = none from if_neg (by omega)]
      exact ⟨rfl, q2, q3⟩
end SWX
section SWM
variable {X : List Int32} {w w1 : ab_W} {s : List Int32} {n : Nat} {st ks : List Int32} {kp : Bool} {tp : List Int32} {tn : Nat} {bo so nu : List Int32}
set_option maxRecDepth 100000 in
set_option maxHeartbeats 4000000 in
theorem m_swaps_k (R : MW w s n st ks kp tp tn bo so nu) (I : SI s n) : ab_Q X kX6_swaps [.ref 54] w (fun v w1 => match swapO s n with | none => MP w (-1000005) s n (bump st 4) ks kp tp tn bo so nu v w1 | some a => MP w (nI a) s n st ks kp tp tn bo so nu v w1) := by
  have M := R.ms
  have R0 := R
  have RC := R0
  obtain ⟨oth, nz, mv, fr, to, vl, wr, a54, a55, a56, a57, a58, a59, a60, a61, a62, a63, a64, l, h0, hn, ht⟩ := R
  show ab_H X kX6_swaps 0 [some (.ref 54), none, none, none, none, none] [] w _
  have hb : ∀ f, f < n → bedN s f < n := fun f hf => (bedN_e I hn hf).2
  have h8 : bs (imgB (bedN s) n) 8 = bs (imgB (bedN s) n) 8 := rfl
  have c8 : cntR (imgB (bedN s) n) 8 = cntR (imgB (bedN s) n) n := cnt_8 (fun i q => img_lt hb (Nat.le_refl n) q) 8 hn
  have cle := cntR_le (imgB (bedN s) n) n
  refine h_k (y := 0) rfl rfl ?_
  refine h_s rfl ?_
  refine h_k (y := 0) rfl rfl ?_
  refine h_s rfl ?_
  refine h_loop0 n (fun i ls v => (∃ x3 x4 x5, ls = [some (.ref 54), some (.int (bs (imgB (bedN s) i) 8)), some (.int (nI i)), x3, x4, x5]) ∧ w = v) ⟨⟨none, none, none, by rw [show bs (imgB (bedN s) 0) 8 = 0 from (bs_zero (by decide)).mpr (fun _ _ => rfl)]; rfl⟩, rfl⟩ (fun i ls v hi hJ ih => ?_) (fun ls v hJ => ?_)
  · obtain ⟨⟨x3, x4, x5, rfl⟩, hv⟩ := hJ
    subst hv
    iterate 2 refine h_s rfl ?_
    refine h_gf rfl rfl rfl a54 rfl ?_
    refine h_k (y := 0) rfl rfl ?_
    refine h_ia (0) rfl a55 (by omega) rfl (by omega) ?_
    refine h_t h0 ?_
    refine hN_ge rfl rfl rfl rfl (by omega) (by omega) (fun h11 => absurd h11 (by omega)) (fun h11 => ?_)
    refine h_s rfl ?_
    refine h_k (y := 1) rfl rfl ?_
    iterate 2 refine h_s rfl ?_
    refine h_k (y := 7) rfl rfl ?_
    refine h_cv rfl rfl rfl a54 rfl rfl (m_its M i 7 (by omega) (by decide) rfl rfl) ?_
    refine h_t (bedN_e I hn hi).1 ?_
    refine h_n (st2 := [_, _, _]) rfl ?_
    refine h_s rfl ?_
    refine h_s rfl ?_
    refine h_t (bs_img (by have := hb i hi; omega)) ?_
    refine h_s rfl ?_
    refine h_ii rfl rfl rfl ?_
    refine h_s rfl ?_
    exact ih _ _ ⟨⟨_, _, _, rfl⟩, rfl⟩
  · obtain ⟨⟨x3, x4, x5, rfl⟩, hv⟩ := hJ
    subst hv
    iterate 2 refine h_s rfl ?_
    refine h_gf rfl rfl rfl a54 rfl ?_
    refine h_k (y := 0) rfl rfl ?_
    refine h_ia (0) rfl a55 (by omega) rfl (by omega) ?_
    refine h_t h0 ?_
    refine hN_ge rfl rfl rfl rfl (by omega) (by omega) (fun h11 => ?_) (fun h11 => absurd (by omega) h11)
    refine h_s rfl ?_
    refine h_c rfl (m_onesB (p := imgB (bedN s) n) (by decide)) ?_
    refine h_n (st2 := [_]) rfl ?_
    refine h_s rfl ?_
    refine h_gf rfl rfl rfl a54 rfl ?_
    refine h_k (y := 0) rfl rfl ?_
    refine h_ia (0) rfl a55 (by omega) rfl (by omega) ?_
    refine h_t h0 ?_
    refine hN_ge rfl rfl rfl rfl (by omega) (by omega) (fun h42 => ?_) (fun h42 => ?_)
    · refine h_k (y := 0) rfl rfl ?_
      refine h_s rfl ?_
      refine h_k (y := 0) rfl rfl ?_
      refine h_s rfl ?_
      refine h_k (y := 0) rfl rfl ?_
      refine h_s rfl ?_
      have hfull : cntR (imgB (bedN s) n) n = n := by omega
      rw [show swapO s n = some (n - ringsN (bedN s) n n) from if_pos hfull]
      refine h_loop0 n (fun i ls v => (∃ x5, ls = [some (.ref 54), some (.int (bs (imgB (bedN s) n) 8)), some (.int (bs (seenB (bedN s) n i) 8)), some (.int (nI (ringsN (bedN s) n i))), some (.int (nI i)), x5]) ∧ w = v) ⟨⟨_, by rw [show bs (seenB (bedN s) n 0) 8 = 0 from (bs_zero (by decide)).mpr (fun _ _ => rfl)]; rfl⟩, rfl⟩ (fun i ls v hi hJ ih => ?_) (fun ls v hJ => ?_)
      · obtain ⟨⟨x5, rfl⟩, hv⟩ := hJ
        subst hv
        have hhas : bt (bs (seenB (bedN s) n i) 8) i = seenB (bedN s) n i i := by rw [bt_bs _ _ _ (by decide) (by omega), decide_eq_true (by omega), Bool.true_and]
        cases h80 : seenB (bedN s) n i i with
        | true =>
          rw [h80] at hhas
          have hs : bs (seenB (bedN s) n (i + 1)) 8 = bs (seenB (bedN s) n i) 8 := bs_cong (fun y _ => by
            show (seenB (bedN s) n i y || (!seenB (bedN s) n i i && orbB (bedN s) n i y)) = _
            rw [h80]; simp)
          have hr : ringsN (bedN s) n (i + 1) = ringsN (bedN s) n i := by
            show cntR _ i + (if (!seenB (bedN s) n i i) then 1 else 0) = _
            rw [h80]; rfl
          iterate 2 refine h_s rfl ?_
          refine h_gf rfl rfl rfl a54 rfl ?_
          refine h_k (y := 0) rfl rfl ?_
          refine h_ia (0) rfl a55 (by omega) rfl (by omega) ?_
          refine h_t h0 ?_
          refine hN_ge rfl rfl rfl rfl (by omega) (by omega) (fun h67 => absurd h67 (by omega)) (fun h67 => ?_)
          iterate 3 refine h_s rfl ?_
          refine h_c rfl (m_has i (by omega)) ?_
          refine h_t (y := 1) (by rw [hhas]; rfl) ?_
          refine h_n (st2 := [_, _]) rfl ?_
          refine h_s rfl ?_
          refine h_k (y := 0) rfl rfl ?_
          refine h_s rfl ?_
          refine h_Nadd (b := 0) rfl rfl rfl ?_
          iterate 5 refine h_s rfl ?_
          refine h_c rfl (m_has i (by omega)) ?_
          refine h_t (y := 1) (by rw [hhas]; rfl) ?_
          refine h_n (st2 := [_]) rfl ?_
          refine h_s rfl ?_
          refine h_ii rfl rfl rfl ?_
          refine h_s rfl ?_
          exact ih _ _ ⟨⟨_, by rw [hs, hr]; rfl⟩, rfl⟩
        | false =>
          rw [h80] at hhas
          have hr : ringsN (bedN s) n (i + 1) = ringsN (bedN s) n i + 1 := by
            show cntR _ i + (if (!seenB (bedN s) n i i) then 1 else 0) = _
            rw [h80]; rfl
          iterate 2 refine h_s rfl ?_
          refine h_gf rfl rfl rfl a54 rfl ?_
          refine h_k (y := 0) rfl rfl ?_
          refine h_ia (0) rfl a55 (by omega) rfl (by omega) ?_
          refine h_t h0 ?_
          refine hN_ge rfl rfl rfl rfl (by omega) (by omega) (fun h67 => absurd h67 (by omega)) (fun h67 => ?_)
          iterate 3 refine h_s rfl ?_
          refine h_c rfl (m_has i (by omega)) ?_
          refine h_t (y := 0) (by rw [hhas]; rfl) ?_
          refine h_n (st2 := [_, _]) rfl ?_
          refine h_s rfl ?_
          refine h_k (y := 1) rfl rfl ?_
          refine h_Nadd (b := 1) rfl rfl rfl ?_
          iterate 3 refine h_s rfl ?_
          refine h_loop0 (n + 2) (fun k ls v2 => ls = [some (.ref 54), some (.int (bs (imgB (bedN s) n) 8)), some (.int (bs (fun y => seenB (bedN s) n i y || visB (bedN s) i k y) 8)), some (.int (nI (ringsN (bedN s) n i + 1))), some (.int (nI i)), some (.int (nI (itN (bedN s) k i)))] ∧ w = v2 ∧ k ≤ n ∧ ∀ j, j < k → visB (bedN s) i j (itN (bedN s) j i) = false) ⟨by rw [show bs (fun y => seenB (bedN s) n i y || visB (bedN s) i 0 y) 8 = bs (seenB (bedN s) n i) 8 from bs_cong (fun y _ => Bool.or_false _)]; rfl, rfl, by omega, fun j hj => absurd hj (by omega)⟩ (fun k ls v2 hk hJ ih2 => ?_) (fun ls v2 hJ => absurd hJ.2.2.1 (by omega))
          obtain ⟨rfl, hv, hkn, hno⟩ := hJ
          subst hv
          have hlt := it_lt hb hi k
          have hk2 : bt (bs (fun y => seenB (bedN s) n i y || visB (bedN s) i k y) 8) (itN (bedN s) k i) = visB (bedN s) i k (itN (bedN s) k i) := by
            rw [bt_bs _ _ _ (by decide) (by omega), decide_eq_true (by omega), Bool.true_and, seen_it hfull hb (by omega) hi h80 k, Bool.false_or]
          iterate 2 refine h_s rfl ?_
          refine h_c rfl (m_has (itN (bedN s) k i) (by omega)) ?_
          refine h_t (y := z01 (visB (bedN s) i k (itN (bedN s) k i))) (by rw [hk2]) ?_
          refine h_n (st2 := [_]) rfl ?_
          refine hz_ne rfl rfl (fun h97 => ?_) (fun h97 => ?_)
          · refine h_ii rfl rfl rfl ?_
            refine h_s rfl ?_
            have hs : bs (seenB (bedN s) n (i + 1)) 8 = bs (fun y => seenB (bedN s) n i y || visB (bedN s) i k y) 8 := bs_cong (fun y _ => by
              show (seenB (bedN s) n i y || (!seenB (bedN s) n i i && orbB (bedN s) n i y)) = _
              rw [h80, ← orb_stop hkn h97 y]; rfl)
            exact ih _ _ ⟨⟨_, by rw [hs, hr]; rfl⟩, rfl⟩
          · refine h_s rfl ?_
            refine h_k (y := 1) rfl rfl ?_
            iterate 2 refine h_s rfl ?_
            refine h_s rfl ?_
            refine h_t (bs_vis (by omega) (seenB (bedN s) n i)) ?_
            iterate 3 refine h_s rfl ?_
            refine h_k (y := 7) rfl rfl ?_
            refine h_cv rfl rfl rfl a54 rfl rfl (m_its M (itN (bedN s) k i) 7 (by omega) (by decide) rfl rfl) ?_
            refine h_t (bedN_e I hn hlt).1 ?_
            refine h_n (st2 := [_]) rfl ?_
            iterate 2 refine h_s rfl ?_
            have hkn1 : k + 1 ≤ n := by
              rcases Nat.lt_or_ge k n with h1 | h1
              · exact h1
              · exact absurd (vis_stop hb hi (fun j hj => if e : j < k then hno j e else (show j = k by omega) ▸ h97)) id
            exact ih2 _ _ ⟨rfl, rfl, hkn1, fun j hj => if e : j < k then hno j e else (show j = k by omega) ▸ h97⟩
      · obtain ⟨⟨x5, rfl⟩, hv⟩ := hJ
        subst hv
        have hrl := rings_le (bedN s) n n
        iterate 2 refine h_s rfl ?_
        refine h_gf rfl rfl rfl a54 rfl ?_
        refine h_k (y := 0) rfl rfl ?_
        refine h_ia (0) rfl a55 (by omega) rfl (by omega) ?_
        refine h_t h0 ?_
        refine hN_ge rfl rfl rfl rfl (by omega) (by omega) (fun h67 => ?_) (fun h67 => absurd (by omega) h67)
        refine h_s rfl ?_
        refine h_gf rfl rfl rfl a54 rfl ?_
        refine h_k (y := 0) rfl rfl ?_
        refine h_ia (0) rfl a55 (by omega) rfl (by omega) ?_
        refine h_t h0 ?_
        refine h_s rfl ?_
        refine h_Nsub rfl rfl rfl (by omega) ?_
        exact h_ri rfl rfl (MP.same R0 _)
    · refine h_s rfl ?_
      refine h_k (y := (-1000005)) rfl rfl ?_
      refine hq_v rfl rfl rfl a54 rfl rfl (m_finds RC 4 (by omega) _ (by decide)) (fun v9 w9 q9 => ?_)
      obtain ⟨rfl, q2, q3⟩ := q9
      refine h_n (st2 := [_]) rfl ?_
      refine h_ri rfl rfl ?_
      rw [show swapO s n = none from if_neg (by omega)]
      exact ⟨rfl, q2, q3⟩
end SWM
