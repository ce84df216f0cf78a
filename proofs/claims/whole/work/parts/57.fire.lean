/-! FIRE, in both -/
def fireL (s : List Int32) (n f : Nat) : Nat := wayL (adjB s n) (fun _ => true) evB (homeN s f)
/-- the longest way out of the first families -/
def fireI (s : List Int32) (n : Nat) : Nat → Option Nat
  | 0 => some 0
  | i + 1 => match fireI s n i with
    | none => none
    | some m => if fireL s n i = 0 then none else some (max m (fireL s n i))
theorem fire_none {s : List Int32} {n i : Nat} (h : fireI s n i = none) : ∀ d, fireI s n (i + d) = none
  | 0 => h
  | d + 1 => by
    show fireI s n (i + d + 1) = none
    rw [fireI, fire_none h d]
theorem fire_le {s : List Int32} {n : Nat} : ∀ {i m : Nat}, fireI s n i = some m → m ≤ 16
  | 0, m, h => by cases h; omega
  | i + 1, m, h => by
    rw [fireI] at h
    cases h1 : fireI s n i with
    | none => rw [h1] at h; cases h
    | some m1 =>
      rw [h1] at h
      have := fire_le h1
      have h2 : fireL s n i ≤ 16 := wayL_le _
      dsimp only at h
      split at h
      · cases h
      · cases h; omega
theorem fire_s0 {s : List Int32} {n i m : Nat} (h : fireI s n i = some m) (hL : fireL s n i = 0) : fireI s n (i + 1) = none := by rw [fireI, h]; dsimp only; rw [if_pos hL]
theorem fire_s1 {s : List Int32} {n i m : Nat} (h : fireI s n i = some m) (hL : ¬ fireL s n i = 0) : fireI s n (i + 1) = some (max m (fireL s n i)) := by rw [fireI, h]; dsimp only; rw [if_neg hL]
theorem all_255 : (255 : Int32) = bs (fun _ => true) 8 := by decide +kernel
theorem max_n {m L : Nat} (hm : m < 2 ^ 31) (hL : L < 2 ^ 31) : (if nI m < nI L then nI L else nI m) = nI (max m L) := by
  by_cases h : m < L
  · rw [if_pos ((nI_ltI hm hL).mpr h), show max m L = L by omega]
  · rw [if_neg (fun q => h ((nI_ltI hm hL).mp q)), show max m L = m by omega]
section WF
variable {adj : Nat → Nat → Bool} {room n : Nat}
theorem wT_lt (ha : ∀ r q, adj r q = true → q < 2 * n) (hr : room < 2 * n) : ∀ k i, wB adj (fun _ => true) (fun y => decide (y = room)) k i = true → i < 2 * n
  | 0, i, h => by cases h
  | k + 1, i, h => by
    unfold wB at h
    simp only [Bool.true_and, Bool.or_eq_true, decide_eq_true_eq, anyR_iff, Bool.and_eq_true] at h
    rcases h with rfl | ⟨r, -, -, h⟩
    · exact hr
    · exact ha r i h
theorem wT_next {k : Nat} : bs (wB adj (fun _ => true) (fun y => decide (y = room)) (k + 1)) 16 ||| bs (fun q => anyR (fun r => wB adj (fun _ => true) (fun y => decide (y = room)) (k + 1) r && adj r q) 16) 16 = bs (wB adj (fun _ => true) (fun y => decide (y = room)) (k + 2)) 16 := by
  rw [bs_or (by omega)]
  refine bs_cong (fun i _ => ?_)
  show (wB adj (fun _ => true) (fun y => decide (y = room)) (k + 1) i || anyR (fun r => wB adj (fun _ => true) (fun y => decide (y = room)) (k + 1) r && adj r i) 16) = (true && (decide (i = room) || anyR (fun r => wB adj (fun _ => true) (fun y => decide (y = room)) (k + 1) r && adj r i) 16))
  rw [Bool.true_and]
  cases h : wB adj (fun _ => true) (fun y => decide (y = room)) (k + 1) i with
  | true =>
    have h2 := wB_mono h
    have h3 : (true && (decide (i = room) || anyR (fun r => wB adj (fun _ => true) (fun y => decide (y = room)) (k + 1) r && adj r i) 16)) = true := h2
    rw [Bool.true_and] at h3
    rw [h3]
    rfl
  | false =>
    have hne : decide (i = room) = false := by
      apply decide_eq_false
      rintro rfl
      unfold wB at h
      simp at h
    rw [hne]
theorem wT_1 (hr : room < 16) : (1 : Int32) <<< (nI room &&& 31) = bs (wB adj (fun _ => true) (fun y => decide (y = room)) 1) 16 := by
  apply b_ext
  intro i hi
  rw [b_sh (by omega) hi, bt_bs _ _ _ (by omega) hi]
  have h0 : anyR (fun r => wB adj (fun _ => true) (fun y => decide (y = room)) 0 r && adj r i) 16 = false := by
    rw [Bool.eq_false_iff, ne_eq, anyR_iff]
    rintro ⟨r, _, h⟩
    cases h
  show _ = (decide (i < 16) && (true && (decide (i = room) || anyR (fun r => wB adj (fun _ => true) (fun y => decide (y = room)) 0 r && adj r i) 16)))
  rw [h0, Bool.or_false, Bool.true_and]
  by_cases e : i = room
  · simp [e, hr]
  · simp [e]
end WF
theorem adjB_lt2 {s : List Int32} {n r q : Nat} (h : adjB s n r q = true) : q < 2 * n := by
  unfold adjB at h
  simp only [Bool.and_eq_true, decide_eq_true_eq] at h
  exact h.1.2
section FM
variable {X : List Int32} {w w1 : ab_W} {s : List Int32} {n : Nat} {st ks : List Int32} {kp : Bool} {tp : List Int32} {tn : Nat} {bo so nu : List Int32}
set_option maxRecDepth 100000 in
set_option maxHeartbeats 4000000 in
theorem m_fire_k (R : MW w s n st ks kp tp tn bo so nu) (I : SI s n) : ab_Q X kX6_fire [.ref 54] w (fun v w1 => match fireI s n n with | none => MP w (-1000004) s n (bump st 3) ks kp tp tn bo so nu v w1 | some m => MP w (nI m) s n st ks kp tp tn bo so nu v w1) := by
  have M := R.ms
  have R0 := R
  have RC := R0
  obtain ⟨oth, nz, mv, fr, to, vl, wr, a54, a55, a56, a57, a58, a59, a60, a61, a62, a63, a64, l, h0, hn, ht⟩ := R
  show ab_H X kX6_fire 0 [some (.ref 54), none, none, none, none] [] w _
  refine h_k (y := 0) rfl rfl ?_
  refine h_s rfl ?_
  refine h_k (y := 0) rfl rfl ?_
  refine h_s rfl ?_
  refine h_loop0 n (fun i ls v => (∃ x0 x1, ls = [some (.ref 54), some (.int (match fireI s n i with | none => -1 | some m => nI m)), some (.int (nI i)), x0, x1]) ∧ w = v) ⟨⟨none, none, rfl⟩, rfl⟩ (fun i ls v hi hJ ih => ?_) (fun ls v hJ => ?_)
  · obtain ⟨⟨x0, x1, rfl⟩, hv⟩ := hJ
    subst hv
    cases hF : fireI s n i with
    | none =>
      have hN := fire_none hF (n - i)
      rw [show i + (n - i) = n by omega] at hN
      iterate 2 refine h_s rfl ?_
      refine h_gf rfl rfl rfl a54 rfl ?_
      refine h_k (y := 0) rfl rfl ?_
      refine h_ia (0) rfl a55 (by omega) rfl (by omega) ?_
      refine h_t h0 ?_
      refine hN_ge rfl rfl rfl rfl (by omega) (by omega) (fun h11 => absurd h11 (by omega)) (fun h11 => ?_)
      refine h_s rfl ?_
      refine h1_lt rfl rfl (fun h15 => ?_) (fun h15 => absurd ((show (-1 : Int32) < 0 by decide)) h15)
      refine h_s rfl ?_
      refine h1_ge rfl rfl (fun h90 => absurd h90 ((show ¬ (0 : Int32) ≤ -1 by decide))) (fun h90 => ?_)
      refine h_s rfl ?_
      refine h_k (y := (-1000004)) rfl rfl ?_
      refine hq_v rfl rfl rfl a54 rfl rfl (m_finds RC 3 (by omega) _ (by decide)) (fun v9 w9 q9 => ?_)
      obtain ⟨rfl, q2, q3⟩ := q9
      refine h_n (st2 := [_]) rfl ?_
      refine h_s rfl ?_
      refine h_ri rfl rfl ?_
      rw [hN]
      exact ⟨rfl, q2, q3⟩
    | some m =>
      have hm16 := fire_le hF
      have hh := homeN_lt I hn hi
      iterate 2 refine h_s rfl ?_
      refine h_gf rfl rfl rfl a54 rfl ?_
      refine h_k (y := 0) rfl rfl ?_
      refine h_ia (0) rfl a55 (by omega) rfl (by omega) ?_
      refine h_t h0 ?_
      refine hN_ge rfl rfl rfl rfl (by omega) (by omega) (fun h11 => absurd h11 (by omega)) (fun h11 => ?_)
      refine h_s rfl ?_
      refine hM_lt rfl rfl rfl rfl (by omega) (fun h15 => absurd h15 (by omega)) (fun h15 => ?_)
      refine h_k (y := 1) rfl rfl ?_
      iterate 2 refine h_s rfl ?_
      refine h_cv rfl rfl rfl a54 rfl rfl (m_homeOf M I i hi) ?_
      refine h_n (st2 := [_, _]) rfl ?_
      iterate 2 refine h_s rfl ?_
      refine h_k (y := 1) rfl rfl ?_
      refine h_s rfl ?_
      refine h_loop0 16 (fun j ls v => ls = [some (.ref 54), some (.int (nI m)), some (.int (nI i)), some (.int (bs (wB (adjB s n) (fun _ => true) (fun y => decide (y = homeN s i)) (j + 1)) 16)), some (.int (nI (j + 1)))] ∧ w = v ∧ ∀ y, y < 16 → evB y = true → (wB (adjB s n) (fun _ => true) (fun y => decide (y = homeN s i)) j) y = false) ⟨by rw [← wT_1 (by omega)]; rfl, rfl, fun _ _ _ => rfl⟩ (fun j ls v hj hJ ih2 => ?_) (fun ls v hJ => ?_)
      · obtain ⟨rfl, hv, hE⟩ := hJ
        subst hv
        refine h_s rfl ?_
        refine h_k (y := 17) rfl rfl ?_
        refine hN_ge (b := 17) rfl rfl rfl rfl (by omega) (by omega) (fun h33 => absurd h33 (by omega)) (fun h33 => ?_)
        iterate 2 refine h_s rfl ?_
        refine h_cv rfl rfl rfl a54 rfl rfl (m_grounds M) ?_
        refine h_n (st2 := [_, _]) rfl ?_
        refine h_s rfl ?_
        refine h_t (bs_and (by omega)) ?_
        refine h1_ne rfl rfl (fun h42 => ?_) (fun h42 => ?_)
        · refine h_s rfl ?_
          refine h_k (y := 16) rfl rfl ?_
          refine hN_le (b := 16) rfl rfl rfl rfl (by omega) (by omega) (fun h63 => ?_) (fun h63 => absurd (by omega) h63)
          iterate 2 refine h_s rfl ?_
          refine hN_le rfl rfl rfl rfl (by omega) (by omega) (fun h73 => ?_) (fun h73 => ?_)
          · iterate 2 refine h_s rfl ?_
            refine h_ii rfl rfl rfl ?_
            refine h_s rfl ?_
            obtain ⟨y, hy, hyy⟩ := bs_nz (by omega) h42
            simp only [Bool.and_eq_true] at hyy
            have hlt := wT_lt (fun r q => adjB_lt2) hh _ _ hyy.1
            have hL1 : fireL s n i = j + 1 := short1 (adj_s s n) (by omega) hE hy (by rw [ev_gB hn (show y / 2 < n by omega)]; exact hyy.2) hyy.1
            refine ih _ _ ⟨⟨_, _, by rw [fire_s1 hF (by omega), hL1, show max m (j + 1) = m by omega]; rfl⟩, rfl⟩
          · iterate 3 refine h_s rfl ?_
            refine h_ii rfl rfl rfl ?_
            refine h_s rfl ?_
            obtain ⟨y, hy, hyy⟩ := bs_nz (by omega) h42
            simp only [Bool.and_eq_true] at hyy
            have hlt := wT_lt (fun r q => adjB_lt2) hh _ _ hyy.1
            have hL1 : fireL s n i = j + 1 := short1 (adj_s s n) (by omega) hE hy (by rw [ev_gB hn (show y / 2 < n by omega)]; exact hyy.2) hyy.1
            refine ih _ _ ⟨⟨_, _, by rw [fire_s1 hF (by omega), hL1, show max m (j + 1) = j + 1 by omega]; rfl⟩, rfl⟩
        · iterate 3 refine h_s rfl ?_
          refine h_cv rfl rfl rfl a54 rfl rfl (m_joinedAll M I (wB (adjB s n) (fun _ => true) (fun y => decide (y = homeN s i)) (j + 1)) (fun r _ h => wT_lt (fun r q => adjB_lt2) hh _ _ h)) ?_
          refine h_n (st2 := [_, _]) rfl ?_
          refine h_s rfl ?_
          refine h_t wT_next ?_
          refine h_s rfl ?_
          refine h_ii rfl rfl rfl ?_
          refine h_s rfl ?_
          refine ih2 _ _ ⟨rfl, rfl, fun y hy hev => ?_⟩
          have h5 := (bs_zero (by omega)).mp h42 y hy
          cases hw : (wB (adjB s n) (fun _ => true) (fun y => decide (y = homeN s i)) (j + 1)) y with
          | false => rfl
          | true =>
            have hlt := wT_lt (fun r q => adjB_lt2) hh _ _ hw
            rw [hw, ← ev_gB hn (show y / 2 < n by omega), hev] at h5
            cases h5
      · obtain ⟨rfl, hv, hE⟩ := hJ
        subst hv
        have hL0 : fireL s n i = 0 := short0 (adj_s s n) (by omega) hE (fun k hk y hy => wB_16 hk hy)
        refine h_s rfl ?_
        refine h_k (y := 17) rfl rfl ?_
        refine hN_ge (b := 17) rfl rfl rfl rfl (by omega) (by omega) (fun h33 => ?_) (fun h33 => absurd (by omega) h33)
        refine h_s rfl ?_
        refine h_k (y := 16) rfl rfl ?_
        refine hN_le (b := 16) rfl rfl rfl rfl (by omega) (by omega) (fun h63 => absurd h63 (by omega)) (fun h63 => ?_)
        refine h_k (y := (-1)) rfl rfl ?_
        iterate 2 refine h_s rfl ?_
        refine h_ii rfl rfl rfl ?_
        refine h_s rfl ?_
        refine ih _ _ ⟨⟨_, _, by rw [fire_s0 hF hL0]; rfl⟩, rfl⟩
  · obtain ⟨⟨x0, x1, rfl⟩, hv⟩ := hJ
    subst hv
    cases hF : fireI s n n with
    | none =>
      iterate 2 refine h_s rfl ?_
      refine h_gf rfl rfl rfl a54 rfl ?_
      refine h_k (y := 0) rfl rfl ?_
      refine h_ia (0) rfl a55 (by omega) rfl (by omega) ?_
      refine h_t h0 ?_
      refine hN_ge rfl rfl rfl rfl (by omega) (by omega) (fun h11 => ?_) (fun h11 => absurd (by omega) h11)
      refine h_s rfl ?_
      refine h1_ge rfl rfl (fun h90 => absurd h90 ((show ¬ (0 : Int32) ≤ -1 by decide))) (fun h90 => ?_)
      refine h_s rfl ?_
      refine h_k (y := (-1000004)) rfl rfl ?_
      refine hq_v rfl rfl rfl a54 rfl rfl (m_finds RC 3 (by omega) _ (by decide)) (fun v9 w9 q9 => ?_)
      obtain ⟨rfl, q2, q3⟩ := q9
      refine h_n (st2 := [_]) rfl ?_
      refine h_s rfl ?_
      exact h_ri rfl rfl ⟨rfl, q2, q3⟩
    | some m =>
      have hm16 := fire_le hF
      iterate 2 refine h_s rfl ?_
      refine h_gf rfl rfl rfl a54 rfl ?_
      refine h_k (y := 0) rfl rfl ?_
      refine h_ia (0) rfl a55 (by omega) rfl (by omega) ?_
      refine h_t h0 ?_
      refine hN_ge rfl rfl rfl rfl (by omega) (by omega) (fun h11 => ?_) (fun h11 => absurd (by omega) h11)
      refine h_s rfl ?_
      refine hM_ge rfl rfl rfl rfl (by omega) (fun h90 => ?_) (fun h90 => absurd (by omega) h90)
      refine h_s rfl ?_
      exact h_ri rfl rfl (MP.same R0 _)
end FM
section FX
variable {X : List Int32} {w w1 : ab_W} {r : Nat} {s : List Int32} {n : Nat} {st ks : List Int32} {kp : Bool} {tp : List Int32} {tn : Nat} {bo so nu : List Int32}
set_option maxRecDepth 100000 in
set_option maxHeartbeats 4000000 in
theorem x_fire_k (R : XW w s n st ks kp tp tn bo so nu) (I : SI s n) : ab_Q X kX5_fire [.ref 0] w (fun v w1 => match fireI s n n with | none => XP w (-1000004) s n (bump st 3) ks kp tp tn bo so nu v w1 | some m => XP w (nI m) s n st ks kp tp tn bo so nu v w1) := by
  have R0 := R
  obtain ⟨x0, XR, ⟨sd, nd, XD⟩, ⟨sk, nk, XK, hkp⟩, XPl, XT, XS, x45, xl⟩ := R
  have r0 := XR.1
  have p0 := XPl.1
  have d0 := XD.1
  have hn : n ≤ 8 := XR.2.2.2.2.2.2.2
  have RC := R0
  show ab_H X kX5_fire 0 [some (.ref 0), none, none, none] [] w _
  refine h_s rfl ?_
  refine h_gf rfl rfl rfl x0 rfl ?_
  refine h_s rfl ?_
  refine h_gf rfl rfl rfl x0 rfl ?_
  refine hq_v rfl rfl rfl p0 rfl rfl (x_draw XPl XR I (by omega)) (fun v1 w1 q1 => ?_)
  obtain ⟨rfl, PJ, f1⟩ := q1
  have G : ∀ i, (i < 34 ∨ 39 ≤ i) → w1[i]? = w[i]? := fun i hi => f1 i (by omega)
  have x0 := (G 0 (by decide)).trans x0
  have XR := XR.fr (w1 := w1) (fun i _ _ => G i (by omega))
  have r0 := XR.1
  have p0 := PJ.1
  refine h_n (st2 := []) rfl ?_
  refine h_k (y := 0) rfl rfl ?_
  refine h_s rfl ?_
  refine h_k (y := 0) rfl rfl ?_
  refine h_s rfl ?_
  refine h_loop0 n (fun i ls v => (∃ m x, fireI s n i = some m ∧ ls = [some (.ref 0), some (.int (nI m)), some (.int (nI i)), x]) ∧ (∀ j, (j < 34 ∨ 39 ≤ j) → v[j]? = w[j]?) ∧ PlanJ v (adjB s n)) ⟨⟨0, none, rfl, rfl⟩, G, PJ⟩ (fun i ls v hi hJ ih => ?_) (fun ls v hJ => ?_)
  · obtain ⟨⟨m, x, hF, rfl⟩, G, PJ⟩ := hJ
    have x0 := (G 0 (by decide)).trans R0.1
    have XR := R0.2.1.fr (w1 := v) (fun j _ _ => G j (by omega))
    have p0 := PJ.1
    have r0 := XR.1
    have hm16 := fire_le hF
    have hh := homeN_lt I hn hi
    iterate 2 refine h_s rfl ?_
    refine h_gf rfl rfl rfl x0 rfl ?_
    refine h_gf rfl rfl rfl r0 rfl ?_
    refine hN_ge rfl rfl rfl rfl (by omega) (by omega) (fun h23 => absurd h23 (by omega)) (fun h23 => ?_)
    refine h_s rfl ?_
    refine h_gf rfl rfl rfl x0 rfl ?_
    refine h_s rfl ?_
    refine h_gf rfl rfl rfl x0 rfl ?_
    refine h_s rfl ?_
    refine h_cv rfl rfl rfl r0 rfl rfl (x_homeOf XR I hi) ?_
    refine h_n (st2 := [_, _]) rfl ?_
    refine h_k (y := bs (fun _ => true) 8) rfl all_255 ?_
    refine hq_v rfl rfl rfl p0 rfl rfl (x_shortest PJ (adj_s s n) (fun _ => true) (room := homeN s i) (by omega)) (fun v2 w2 q2 => ?_)
    obtain ⟨rfl, f2, la, hla, hll, -⟩ := q2
    have PJ := PJ.la hla hll f2
    have G : ∀ i, (i < 34 ∨ 39 ≤ i) → w2[i]? = w[i]? := fun i hi => (f2 i (by omega)).trans (G i hi)
    have x0 := (f2 0 (by decide)).trans x0
    have XR := XR.fr (w1 := w2) (fun i _ _ => f2 i (by omega))
    have r0 := XR.1
    have p0 := PJ.1
    refine h_n (st2 := [_]) rfl ?_
    obtain ⟨L, hL⟩ : ∃ L, wayL (adjB s n) (fun r => true) evB (homeN s i) = L := ⟨_, rfl⟩
    have hL16 : L ≤ 16 := by rw [← hL]; exact wayL_le _
    rw [hL]
    iterate 2 refine h_s rfl ?_
    refine hM_ne rfl rfl rfl rfl (by omega) (fun h46 => ?_) (fun h46 => ?_)
    · iterate 2 refine h_s rfl ?_
      refine h_s rfl ?_
      refine h_t (max_n (m := m) (L := L) (by omega) (by omega)) ?_
      refine h_s rfl ?_
      refine h_ii rfl rfl rfl ?_
      refine h_s rfl ?_
      exact ih _ _ ⟨⟨_, _, (fire_s1 hF (show ¬ fireL s n i = 0 by unfold fireL; rw [hL]; exact h46)), by unfold fireL; rw [hL]; rfl⟩, G, PJ⟩
    · refine h_s rfl ?_
      refine h_k (y := (-1000004)) rfl rfl ?_
      have RC := R0.plan PJ.x G
      refine hq_v rfl rfl rfl x0 rfl rfl (x_found RC 3 (by omega) _ (by decide)) (fun v9 w9 q9 => ?_)
      obtain ⟨rfl, q2, q3⟩ := q9
      refine h_n (st2 := [_]) rfl ?_
      have hN := fire_none (fire_s0 hF (show fireL s n i = 0 by unfold fireL; rw [hL]; exact h46)) (n - (i + 1))
      rw [show (i + 1) + (n - (i + 1)) = n by omega] at hN
      refine h_ri rfl rfl ?_
      rw [hN]
      exact ⟨rfl, q2, fun i hi => (q3 i hi).trans (G i (by omega))⟩
  · obtain ⟨⟨m, x, hF, rfl⟩, G, PJ⟩ := hJ
    have x0 := (G 0 (by decide)).trans R0.1
    have XR := R0.2.1.fr (w1 := v) (fun j _ _ => G j (by omega))
    have r0 := XR.1
    iterate 2 refine h_s rfl ?_
    refine h_gf rfl rfl rfl x0 rfl ?_
    refine h_gf rfl rfl rfl r0 rfl ?_
    refine hN_ge rfl rfl rfl rfl (by omega) (by omega) (fun h23 => ?_) (fun h23 => absurd (by omega) h23)
    refine h_s rfl ?_
    refine h_ri rfl rfl ?_
    rw [hF]
    exact ⟨rfl, R0.plan PJ.x G, fun i hi => G i (by omega)⟩
end FX
