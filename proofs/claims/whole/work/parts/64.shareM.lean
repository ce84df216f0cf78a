/-! THE REFERENCE: share -/
/-- as s, but for leaves of its houses -/
def AG (S s : List Int32) (n : Nat) : Prop := S.length = 90 ∧ ∀ j, (∀ h, h < n → j ≠ 2 + 8 * h + 2) → S.getD j 0 = s.getD j 0
theorem AG.set {S s : List Int32} {n h : Nat} {x : Int32} (a : AG S s n) (hh : h < n) : AG (S.set (2 + 8 * h + 2) x) s n :=
  ⟨by rw [List.length_set]; exact a.1, fun j hj => by rw [gD_ne (fun e => hj h hh e.symm)]; exact a.2 j hj⟩
theorem AG.keep {S s : List Int32} {n h k : Nat} (a : AG S s n) (hk : k < 8) (h2 : k ≠ 2) : fld S h k = fld s h k := a.2 _ (fun h' _ => by omega)
theorem AG.si {S s : List Int32} {n : Nat} (a : AG S s n) (I : SI s n) (hn : n ≤ 8) (hl : ∀ h, h < n → inn (fld S h 2) 8) : SI S n := by
  refine ⟨fun h hh => ?_, fun d hd => ?_, fun k hk => ?_⟩
  · obtain ⟨i0, i1, i2, i3, i4, i5, i6, i7⟩ := I.1 h hh
    rw [a.keep (k := 0) (by decide) (by decide), a.keep (k := 1) (by decide) (by decide), a.keep (k := 3) (by decide) (by decide), a.keep (k := 4) (by decide) (by decide), a.keep (k := 5) (by decide) (by decide), a.keep (k := 6) (by decide) (by decide), a.keep (k := 7) (by decide) (by decide)]
    exact ⟨i0, i1, hl h hh, i3, i4, i5, i6, i7⟩
  · rw [a.2 _ (fun h _ => by omega)]
    exact I.2.1 d hd
  · rw [a.2 _ (fun h _ => by omega)]
    exact I.2.2 k hk
theorem off_AG {S s : List Int32} {n f : Nat} {c : Int32} (a : AG S s n) (hn : n ≤ 8) (g : Nat → Bool) (hg : ∀ h, h < n → bt (fld S h 2) f = (g h && bt (fld s h 2) f)) : offB S n f c = offQ s n f (fun h => shBare s n f c h || (g h && shBy s n f c h)) := by
  have e1 : adjB S n = adjB s n := adjB_cong (fun d => by unfold dB; rw [a.2 _ (fun h _ => by omega)]) (fun g => a.keep (by decide) (by decide))
  have e2 : homeN S f = homeN s f := by unfold homeN bedN; rw [a.keep (by decide) (by decide)]
  have e3 : offQ S n f (lqB S n f c) = offQ s n f (lqB S n f c) := by unfold offQ; rw [e1, e2]
  rw [offB_Q hn, e3]
  refine offQ_cong (fun h => ?_)
  unfold shBy shBare lqB
  by_cases hh : h < n
  · rw [decide_eq_true hh]
    have e4 : letB S h f c = lwB s h f c (g h && bt (fld s h 2) f) := by
      rw [← hg h hh, letB_w]
      unfold lwB hourB
      rw [a.keep (k := 0) (by decide) (by decide), a.keep (k := 3) (by decide) (by decide), a.keep (k := 4) (by decide) (by decide), a.keep (k := 5) (by decide) (by decide)]
    rw [e4, letB_w]
    cases g h
    · simp
    · cases bt (fld s h 2) f
      · simp
      · cases q : lwB s h f c false
        · simp
        · have q2 := lw_mono q
          simp [q2]
  · rw [decide_eq_false hh]
    simp
theorem inn_if {x : Int32} (b : Bool) (h : inn x 8) : inn (if b = true then x else 0) 8 := by
  cases b
  · exact inn_0 8
  · exact h
theorem bt_if {x : Int32} (b : Bool) (f : Nat) : bt (if b = true then x else 0) f = (b && bt x f) := by
  cases b
  · exact b_0 f
  · rfl
/-- the two ways of the count's houses -/
theorem sh_1 {s : List Int32} {n f hs O m : Nat} {c : Int32} (hn : n ≤ 8) (hm : m < 256) (hO : O < 256) (hb : ∀ h, h < 8 → O.testBit h = shOth s n f c hs h) (hh : m.testBit hs = false) : offQ s n f (fun h => shBare s n f c h || (m.testBit h && shBy s n f c h)) = offQ s n f (fun h => shBare s n f c h || (bt (nI (m &&& O)) h && decide (h < 8))) := by
  refine offQ_cong (fun h => ?_)
  refine congrArg (fun b => shBare s n f c h || b) ?_
  have hmo : m &&& O ≤ m := Nat.and_le_left
  by_cases h8 : h < 8
  · rw [decide_eq_true h8, Bool.and_true, bt_tb (by omega) (by omega), Nat.testBit_and, hb h h8]
    unfold shOth
    by_cases e : h = hs
    · rw [e, hh, Bool.false_and, Bool.false_and]
    · rw [decide_eq_false e, Bool.not_false, Bool.and_true]
  · rw [decide_eq_false h8, Bool.and_false]
    cases q : shBy s n f c h with
    | false => rw [Bool.and_false]
    | true => exact absurd (by_lt hn q) (by omega)
theorem sh_2 {s : List Int32} {n f hs O m : Nat} {c : Int32} (hn : n ≤ 8) (hm : m < 256) (hO : O < 256) (hb : ∀ h, h < 8 → O.testBit h = shOth s n f c hs h) (hh : m.testBit hs = false) : offQ s n f (fun h => shBare s n f c h || ((m.testBit h || decide (h = hs)) && shBy s n f c h)) = offQ s n f (fun h => (shBare s n f c h || (bt (nI (m &&& O)) h && decide (h < 8))) || shSelf s n f c hs h) := by
  refine offQ_cong (fun h => ?_)
  rw [Bool.or_assoc]
  refine congrArg (fun b => shBare s n f c h || b) ?_
  have hmo : m &&& O ≤ m := Nat.and_le_left
  unfold shSelf
  by_cases h8 : h < 8
  · rw [decide_eq_true h8, Bool.and_true, bt_tb (by omega) (by omega), Nat.testBit_and, hb h h8]
    unfold shOth
    by_cases e : h = hs
    · rw [e, hh, decide_eq_true rfl]
      cases shBy s n f c hs <;> rfl
    · rw [decide_eq_false e]
      cases m.testBit h <;> cases shBy s n f c h <;> rfl
  · rw [decide_eq_false h8, Bool.and_false]
    cases q : shBy s n f c h with
    | false => rw [Bool.and_false]; rfl
    | true => exact absurd (by_lt hn q) (by omega)
section SHR
variable {X : List Int32} {w w1 : ab_W} {s : List Int32} {n : Nat} {st ks : List Int32} {kp : Bool} {tp : List Int32} {tn : Nat} {bo so nu : List Int32}
set_option maxRecDepth 100000 in
set_option maxHeartbeats 4000000 in
theorem m_common4 : ∀ (y x : Nat), x < 2 ^ 31 → y < 2 ^ 31 → ∀ (a b : Int32) (z : Option Value), ab_G X kX6_common 4 [some (.int a), some (.int b), some (.int (nI x)), some (.int (nI y)), z] [] w (some (.int (nI (Nat.gcd y x)))) w := by
  intro y
  induction y using Nat.strongRecOn with
  | ind y ih =>
    intro x hx hy a b z
    by_cases h0 : y = 0
    · subst h0
      rw [Nat.gcd_zero_left]
      refine ab_s rfl ?_
      refine jM_eq rfl rfl rfl rfl (by omega) (fun h5 => ?_) (fun h5 => absurd (rfl) h5)
      refine ab_s rfl ?_
      exact ab_ri rfl rfl
    · have hlt := Nat.mod_lt x (show 0 < y by omega)
      have k := ih (x % y) hlt y hy (by omega) a b (some (.int (nI (x % y))))
      rw [← Nat.gcd_rec] at k
      refine ab_s rfl ?_
      refine jM_eq rfl rfl rfl rfl (by omega) (fun h5 => absurd h5 (h0)) (fun h5 => ?_)
      iterate 2 refine ab_s rfl ?_
      refine ab_Nrem rfl rfl rfl (by omega) (by omega) (by omega) ?_
      iterate 6 refine ab_s rfl ?_
      exact k
theorem m_common {a b : Nat} (ha : a < 2 ^ 31) (hb : b < 2 ^ 31) : ab_M X kX6_common [.int (nI a), .int (nI b)] w (some (.int (nI (Nat.gcd a b)))) w := by
  rw [Nat.gcd_comm]
  show ab_G X kX6_common 0 [some (.int (nI a)), some (.int (nI b)), none, none, none] [] w _ _
  iterate 4 refine ab_s rfl ?_
  exact m_common4 b a ha hb (nI a) (nI b) none
theorem m_in2 (x : Nat) (hx : x < 2) : ab_M X kX6_in [.long (nI x).toInt64, .long 0, .long 1] w (some (.int 1)) w := m_in1 (lo := 0) (hi := 1) rfl rfl (by rw [nI_toInt (by omega)]; omega)
set_option maxRecDepth 100000 in
set_option maxHeartbeats 4000000 in
theorem m_share_k (R : MW w s n st ks kp tp tn bo so nu) (I : SI s n) (h f c pt : Nat) (hh : h < n) (hf : f < n) (hc : c < 24) (hpt2 : pt < 2) : ab_Q X kX6_share [.ref 54, .int (nI h), .int (nI f), .int (nI c), .int (nI pt)] w (MP w (nI (shI s n f (nI c) h pt)) s n st ks kp tp tn bo so nu) := by
  have M := R.ms
  have R0 := R
  have RC := R0
  obtain ⟨oth, nz, mv, fr, to, vl, wr, a54, a55, a56, a57, a58, a59, a60, a61, a62, a63, a64, l, h0, hn, ht⟩ := R
  show ab_H X kX6_share 0 [some (.ref 54), some (.int (nI h)), some (.int (nI f)), some (.int (nI c)), some (.int (nI pt)), none, none, none] [] w _
  obtain ⟨O, hO, -, hb, ho, hoh⟩ := oth_num (s := s) (f := f) (c := nI c) (hs := h) hn
  obtain ⟨hN, hEx⟩ := share_N hn hh hO hb ho hoh
  have hCle : shC s n f (nI c) h * 2 ^ exN O h n ≤ 2 ^ n := by rw [← hN]; exact cntR_le _ _
  obtain ⟨E, hE⟩ : ∃ E, 2 ^ n = E := ⟨_, rfl⟩
  have hE256 : E ≤ 256 := by rw [← hE]; exact pw_n n hn
  rw [hE] at hN hCle
  iterate 2 refine h_s rfl ?_
  refine h_cv rfl rfl rfl a54 rfl rfl (m_isHouse1 M ⟨h, by omega, rfl⟩) ?_
  refine h_n (st2 := [_]) rfl ?_
  iterate 4 refine h_s rfl ?_
  refine h_cv rfl rfl rfl a54 rfl rfl (m_isAsk1 M ⟨f, by omega, rfl⟩ ⟨c, by omega, rfl⟩) ?_
  refine h_n (st2 := [_]) rfl ?_
  iterate 5 refine h_s rfl ?_
  refine h_c rfl (m_in2 pt hpt2) ?_
  refine h_n (st2 := [_]) rfl ?_
  iterate 2 refine h_s rfl ?_
  refine hq_v rfl rfl rfl a54 rfl rfl (m_puts R0) (fun v1 w1 q1 => ?_)
  obtain ⟨rfl, R1, o1, F1⟩ := q1
  have a54 := (F1 54 (by decide)).trans a54
  have a55 := (F1 55 (by decide)).trans a55
  have a54_ := a54
  refine h_n (st2 := []) rfl ?_
  refine h_k (y := 0) rfl rfl ?_
  refine h_s rfl ?_
  refine h_k (y := 0) rfl rfl ?_
  refine h_s rfl ?_
  have AG0 : AG s s n := ⟨l.1, fun _ _ => rfl⟩
  refine h_loop0 E (fun i ls v => (∃ x7 S, ls = [some (.ref 54), some (.int (nI h)), some (.int (nI f)), some (.int (nI c)), some (.int (nI pt)), some (.int (nI (cntR (fun m => !m.testBit h && shT s n f (nI c) h (m &&& O)) i))), some (.int (nI i)), x7] ∧ AG S s n ∧ v[55]? = some (.inr S)) ∧ ∀ j, j ≠ 55 → v[j]? = w1[j]?) ⟨⟨none, s, rfl, AG0, a55⟩, fun _ _ => rfl⟩ (fun i ls v hi hJ ih => ?_) (fun ls v hJ => ?_)
  · obtain ⟨⟨x7, S, rfl, hA, a55⟩, F⟩ := hJ
    have a54 := (F 54 (by decide)).trans a54
    have g0 : S.getD 0 0 = nI n := (hA.2 0 (fun h _ => by omega)).trans h0
    have hcle := cntR_le (fun m => !m.testBit h && shT s n f (nI c) h (m &&& O)) i
    have hbth : bt (nI i) h = i.testBit h := bt_tb (by omega) (by omega)
    cases htb : i.testBit h with
    | true =>
      rw [htb] at hbth
      have e0 : (!i.testBit h && shT s n f (nI c) h (i &&& O)) = false := by rw [htb]; rfl
      refine h_s rfl ?_
      refine h_k (y := 1) rfl rfl ?_
      refine h_s rfl ?_
      refine h_gf rfl rfl rfl a54 rfl ?_
      refine h_k (y := 0) rfl rfl ?_
      refine h_ia 0 rfl a55 (by rw [hA.1]; decide) rfl (by rw [hA.1]; decide) ?_
      refine h_t g0 ?_
      refine h_s rfl ?_
      refine h_t (y := nI E) (by rw [← hE]; exact sh_n n hn) ?_
      refine hN_ge rfl rfl rfl rfl (by omega) (by omega) (fun h55 => absurd h55 (by omega)) (fun h55 => ?_)
      iterate 2 refine h_s rfl ?_
      refine h_c rfl (m_has h (by omega)) ?_
      refine h_t (y := 1) (by rw [hbth]; rfl) ?_
      refine h_n (st2 := [_]) rfl ?_
      refine h_s rfl ?_
      refine h_ii rfl rfl rfl ?_
      refine h_s rfl ?_
      exact ih _ _ ⟨⟨_, S, by rw [show cntR (fun m => !m.testBit h && shT s n f (nI c) h (m &&& O)) (i + 1) = cntR (fun m => !m.testBit h && shT s n f (nI c) h (m &&& O)) i from by rw [cntR, e0]; rfl]; rfl, hA, a55⟩, F⟩
    | false =>
      rw [htb] at hbth
      refine h_s rfl ?_
      refine h_k (y := 1) rfl rfl ?_
      refine h_s rfl ?_
      refine h_gf rfl rfl rfl a54 rfl ?_
      refine h_k (y := 0) rfl rfl ?_
      refine h_ia 0 rfl a55 (by rw [hA.1]; decide) rfl (by rw [hA.1]; decide) ?_
      refine h_t g0 ?_
      refine h_s rfl ?_
      refine h_t (y := nI E) (by rw [← hE]; exact sh_n n hn) ?_
      refine hN_ge rfl rfl rfl rfl (by omega) (by omega) (fun h55 => absurd h55 (by omega)) (fun h55 => ?_)
      iterate 2 refine h_s rfl ?_
      refine h_c rfl (m_has h (by omega)) ?_
      refine h_t (y := 0) (by rw [hbth]; rfl) ?_
      refine h_n (st2 := [_]) rfl ?_
      refine h_s rfl ?_
      refine h_k (y := 0) rfl rfl ?_
      refine h_s rfl ?_
      refine h_loop0 n (fun k ls v2 => ∃ S, ls = [some (.ref 54), some (.int (nI h)), some (.int (nI f)), some (.int (nI c)), some (.int (nI pt)), some (.int (nI (cntR (fun m => !m.testBit h && shT s n f (nI c) h (m &&& O)) i))), some (.int (nI i)), some (.int (nI k))] ∧ AG S s n ∧ v2[55]? = some (.inr S) ∧ (∀ y, y < k → fld S y 2 = if i.testBit y = true then fld s y 2 else 0) ∧ ∀ j, j ≠ 55 → v2[j]? = w1[j]?) ⟨S, rfl, hA, a55, fun y hy => absurd hy (by omega), F⟩ (fun k ls v2 hk hJ ih2 => ?_) (fun ls v2 hJ => ?_)
      · obtain ⟨S, rfl, hA, a55, hg, F⟩ := hJ
        have a54 := (F 54 (by decide)).trans a54_
        have a57 := (F 57 (by decide)).trans o1
        have g0 : S.getD 0 0 = nI n := (hA.2 0 (fun h _ => by omega)).trans h0
        have hl2 := l.1
        iterate 2 refine h_s rfl ?_
        refine h_gf rfl rfl rfl a54 rfl ?_
        refine h_k (y := 0) rfl rfl ?_
        refine h_ia 0 rfl a55 (by rw [hA.1]; decide) rfl (by rw [hA.1]; decide) ?_
        refine h_t g0 ?_
        refine hN_ge rfl rfl rfl rfl (by omega) (by omega) (fun h78 => absurd h78 (by omega)) (fun h78 => ?_)
        refine h_s rfl ?_
        refine h_gf rfl rfl rfl a54 rfl ?_
        refine h_s rfl ?_
        refine h_k (y := 2) rfl rfl ?_
        refine h_c rfl (m_at k 2 rfl rfl) ?_
        refine h_n (st2 := [_, _]) rfl ?_
        iterate 2 refine h_s rfl ?_
        refine h_c rfl (m_has k (by omega)) ?_
        refine h_t (y := z01 (i.testBit k)) (by rw [bt_tb (by omega) (by omega)]) ?_
        refine h_n (st2 := [_, _, _]) rfl ?_
        refine hz_eq rfl rfl (fun h98 => ?_) (fun h98 => ?_)
        · refine h_k (y := 0) rfl rfl ?_
          refine h_is (2 + 8 * k + 2) rfl a55 (by rw [hA.1]; decide) rfl (by rw [hA.1]; omega) (fun w2 e2 f2 => ?_)
          refine h_ii rfl rfl rfl ?_
          refine h_s rfl ?_
          refine ih2 _ _ ⟨_, rfl, hA.set hk, e2, fun y hy => ?_, fun j hj => (f2 j hj).trans (F j hj)⟩
          by_cases e : y = k
          · rw [e, fld_l, gD_eq (by rw [hA.1]; omega), if_neg (by rw [h98]; decide)]
            try rfl
          · rw [fld_ne (by omega)]
            exact hg y (by omega)
        · refine h_s rfl ?_
          refine h_gf rfl rfl rfl a54 rfl ?_
          refine h_s rfl ?_
          refine h_k (y := 2) rfl rfl ?_
          refine h_c rfl (m_at k 2 rfl rfl) ?_
          refine h_n (st2 := [_, _, _, _]) rfl ?_
          refine h_ia (2 + 8 * k + 2) rfl a57 (by omega) rfl (by omega) ?_
          refine h_s rfl ?_
          refine h_is (2 + 8 * k + 2) rfl a55 (by rw [hA.1]; decide) rfl (by rw [hA.1]; omega) (fun w2 e2 f2 => ?_)
          refine h_ii rfl rfl rfl ?_
          refine h_s rfl ?_
          refine ih2 _ _ ⟨_, rfl, hA.set hk, e2, fun y hy => ?_, fun j hj => (f2 j hj).trans (F j hj)⟩
          by_cases e : y = k
          · rw [e, fld_l, gD_eq (by rw [hA.1]; omega), if_pos h98]
            try rfl
          · rw [fld_ne (by omega)]
            exact hg y (by omega)
      · obtain ⟨S, rfl, hA, a55, hg, F⟩ := hJ
        have a54 := (F 54 (by decide)).trans a54_
        have a57 := (F 57 (by decide)).trans o1
        have g0 : S.getD 0 0 = nI n := (hA.2 0 (fun h _ => by omega)).trans h0
        have hl2 := l.1
        have IS := hA.si I hn (fun y hy => by rw [hg y hy]; exact inn_if _ (I.1 y hy).2.2.1)
        have RS := R1.s55 a55 hA.1 g0 hn F
        have q1 : offB S n f (nI c) = offQ s n f (fun h' => shBare s n f (nI c) h' || (bt (nI (i &&& O)) h' && decide (h' < 8))) := by
          rw [off_AG hA hn (fun y => i.testBit y) (fun y hy => by rw [hg y hy]; exact bt_if _ f)]
          exact sh_1 hn (by omega) hO hb htb
        have hA2 : AG (S.set (2 + 8 * h + 2) (fld s h 2)) s n := hA.set hh
        have hg2 : ∀ y, y < n → fld (S.set (2 + 8 * h + 2) (fld s h 2)) y 2 = if (i.testBit y || decide (y = h)) = true then fld s y 2 else 0 := fun y hy => by
          by_cases e : y = h
          · rw [e, fld_l, gD_eq (by rw [hA.1]; omega), decide_eq_true rfl, Bool.or_true, if_pos rfl]
          · rw [fld_ne (by omega), hg y hy, decide_eq_false e, Bool.or_false]
        have IS2 := hA2.si I hn (fun y hy => by rw [hg2 y hy]; exact inn_if _ (I.1 y hy).2.2.1)
        have q2 : offB (S.set (2 + 8 * h + 2) (fld s h 2)) n f (nI c) = offQ s n f (fun h' => (shBare s n f (nI c) h' || (bt (nI (i &&& O)) h' && decide (h' < 8))) || shSelf s n f (nI c) h h') := by
          rw [off_AG hA2 hn (fun y => i.testBit y || decide (y = h)) (fun y hy => by rw [hg2 y hy]; exact bt_if _ f)]
          exact sh_2 hn (by omega) hO hb htb
        iterate 2 refine h_s rfl ?_
        refine h_gf rfl rfl rfl a54 rfl ?_
        refine h_k (y := 0) rfl rfl ?_
        refine h_ia 0 rfl a55 (by rw [hA.1]; decide) rfl (by rw [hA.1]; decide) ?_
        refine h_t g0 ?_
        refine hN_ge rfl rfl rfl rfl (by omega) (by omega) (fun h78 => ?_) (fun h78 => absurd (by omega) h78)
        iterate 3 refine h_s rfl ?_
        refine h_cv rfl rfl rfl a54 rfl rfl (m_isOff RS.ms IS f hf (nI c)) ?_
        refine h_n (st2 := [_]) rfl ?_
        iterate 2 refine h_s rfl ?_
        refine h_gf rfl rfl rfl a54 rfl ?_
        refine h_s rfl ?_
        refine h_k (y := 2) rfl rfl ?_
        refine h_c rfl (m_at h 2 rfl rfl) ?_
        refine h_n (st2 := [_, _]) rfl ?_
        refine h_s rfl ?_
        refine h_gf rfl rfl rfl a54 rfl ?_
        refine h_s rfl ?_
        refine h_k (y := 2) rfl rfl ?_
        refine h_c rfl (m_at h 2 rfl rfl) ?_
        refine h_n (st2 := [_, _, _, _]) rfl ?_
        refine h_ia (2 + 8 * h + 2) rfl a57 (by omega) rfl (by omega) ?_
        refine h_t (y := fld s h 2) rfl ?_
        refine h_is (2 + 8 * h + 2) rfl a55 (by rw [hA.1]; decide) rfl (by rw [hA.1]; omega) (fun w2 e2 f2 => ?_)
        have F2 : ∀ j, j ≠ 55 → w2[j]? = w1[j]? := fun j hj => (f2 j hj).trans (F j hj)
        have a54 := (f2 54 (by decide)).trans a54
        have RS2 := R1.s55 e2 hA2.1 (by rw [gD_ne (by omega)]; exact g0) hn F2
        iterate 2 refine h_s rfl ?_
        refine hz_eq rfl rfl (fun h155 => ?_) (fun h155 => ?_)
        · refine h_k (y := 0) rfl rfl ?_
          refine h_Nadd (b := 0) rfl rfl rfl ?_
          refine h_s rfl ?_
          refine h_ii rfl rfl rfl ?_
          refine h_s rfl ?_
          have e0 : (!i.testBit h && shT s n f (nI c) h (i &&& O)) = false := by
            unfold shT
            rw [htb, ← q1, ← q2, h155]
            rfl
          exact ih _ _ ⟨⟨_, _, by rw [show cntR (fun m => !m.testBit h && shT s n f (nI c) h (m &&& O)) (i + 1) = cntR (fun m => !m.testBit h && shT s n f (nI c) h (m &&& O)) i + 0 from by rw [cntR, e0]; rfl]; rfl, hA2, e2⟩, F2⟩
        · iterate 3 refine h_s rfl ?_
          refine h_cv rfl rfl rfl a54 rfl rfl (m_isOff RS2.ms IS2 f hf (nI c)) ?_
          refine h_n (st2 := [_, _]) rfl ?_
          refine hz_ne rfl rfl (fun h164 => ?_) (fun h164 => ?_)
          · refine h_k (y := 0) rfl rfl ?_
            refine h_Nadd (b := 0) rfl rfl rfl ?_
            refine h_s rfl ?_
            refine h_ii rfl rfl rfl ?_
            refine h_s rfl ?_
            have e0 : (!i.testBit h && shT s n f (nI c) h (i &&& O)) = false := by
              unfold shT
              rw [htb, ← q1, ← q2, h155, h164]
              rfl
            exact ih _ _ ⟨⟨_, _, by rw [show cntR (fun m => !m.testBit h && shT s n f (nI c) h (m &&& O)) (i + 1) = cntR (fun m => !m.testBit h && shT s n f (nI c) h (m &&& O)) i + 0 from by rw [cntR, e0]; rfl]; rfl, hA2, e2⟩, F2⟩
          · refine h_k (y := 1) rfl rfl ?_
            refine h_s rfl ?_
            refine h_Nadd (b := 1) rfl rfl rfl ?_
            refine h_s rfl ?_
            refine h_ii rfl rfl rfl ?_
            refine h_s rfl ?_
            have e0 : (!i.testBit h && shT s n f (nI c) h (i &&& O)) = true := by
              unfold shT
              rw [htb, ← q1, ← q2, h155, h164]
              rfl
            exact ih _ _ ⟨⟨_, _, by rw [show cntR (fun m => !m.testBit h && shT s n f (nI c) h (m &&& O)) (i + 1) = cntR (fun m => !m.testBit h && shT s n f (nI c) h (m &&& O)) i + 1 from by rw [cntR, e0]; rfl]; rfl, hA2, e2⟩, F2⟩
  · obtain ⟨⟨x7, S, rfl, hA, a55⟩, F⟩ := hJ
    have a54 := (F 54 (by decide)).trans a54
    have g0 : S.getD 0 0 = nI n := (hA.2 0 (fun h _ => by omega)).trans h0
    have RS := R1.s55 a55 hA.1 g0 hn F
    rw [hN]
    obtain ⟨hI0, hI1⟩ := gcd_sc (shC s n f (nI c) h) (shP s n f (nI c) h) (exN O h n)
    rw [show exN O h n + shP s n f (nI c) h = n - 1 by omega] at hI0 hI1
    have hS0 : shI s n f (nI c) h 0 = shC s n f (nI c) h / Nat.gcd (2 ^ shP s n f (nI c) h) (shC s n f (nI c) h) := by unfold shI; rw [if_pos rfl]
    have hS1 : shI s n f (nI c) h 1 = 2 ^ shP s n f (nI c) h / Nat.gcd (2 ^ shP s n f (nI c) h) (shC s n f (nI c) h) := by unfold shI; rw [if_neg (by decide)]
    rw [← hI0] at hS0
    rw [← hI1] at hS1
    obtain ⟨N, hNN⟩ : ∃ N, shC s n f (nI c) h * 2 ^ exN O h n = N := ⟨_, rfl⟩
    obtain ⟨B, hBB⟩ : ∃ B, 2 ^ (n - 1) = B := ⟨_, rfl⟩
    have hB1 : 1 ≤ B := by rw [← hBB]; exact Nat.two_pow_pos _
    have hB2 : B ≤ 256 := by rw [← hBB]; exact pw_n (n - 1) (by omega)
    rw [hNN] at hS0 hS1 hCle ⊢
    rw [hBB] at hS0 hS1
    obtain ⟨D, hD⟩ : ∃ D, Nat.gcd B N = D := ⟨_, rfl⟩
    have hD1 : 0 < D := by rw [← hD]; exact Nat.gcd_pos_of_pos_left _ (by omega)
    have hD2 : D ≤ B := by rw [← hD]; exact Nat.gcd_le_left _ (by omega)
    rw [hD] at hS0 hS1
    have hpt : pt = 0 ∨ pt = 1 := by omega
    refine h_s rfl ?_
    refine h_k (y := 1) rfl rfl ?_
    refine h_s rfl ?_
    refine h_gf rfl rfl rfl a54 rfl ?_
    refine h_k (y := 0) rfl rfl ?_
    refine h_ia 0 rfl a55 (by rw [hA.1]; decide) rfl (by rw [hA.1]; decide) ?_
    refine h_t g0 ?_
    refine h_s rfl ?_
    refine h_t (y := nI E) (by rw [← hE]; exact sh_n n hn) ?_
    refine hN_ge rfl rfl rfl rfl (by omega) (by omega) (fun h55 => ?_) (fun h55 => absurd (by omega) h55)
    refine h_s rfl ?_
    refine hq_v rfl rfl rfl a54 rfl rfl (m_putsBack RS s n ((F 57 (by decide)).trans o1) h0 hn) (fun v4 w4 q4 => ?_)
    obtain ⟨rfl, R4, F4⟩ := q4
    have a54 := (F4 54 (by decide)).trans a54
    have M4 := R4.ms
    have FF : ∀ i, i < 54 → w4[i]? = w[i]? := fun i hi => (F4 i (by omega)).trans ((F i (by omega)).trans (F1 i (by omega)))
    obtain ⟨vs4, -, hv4, a55, -⟩ := id M4
    refine h_n (st2 := []) rfl ?_
    refine h_k (y := 1) rfl rfl ?_
    refine h_s rfl ?_
    refine h_gf rfl rfl rfl a54 rfl ?_
    refine h_k (y := 0) rfl rfl ?_
    refine h_ia 0 rfl a55 (by rw [l.1]; decide) rfl (by rw [l.1]; decide) ?_
    refine h_t h0 ?_
    refine h_k (y := 1) rfl rfl ?_
    refine h_Nsub (b := 1) rfl rfl rfl (by omega) ?_
    refine h_s rfl ?_
    refine h_t (y := nI B) (by rw [← hBB]; exact sh_n (n - 1) (by omega)) ?_
    iterate 3 refine h_s rfl ?_
    refine h_c rfl (m_common (by omega) (by omega)) ?_
    refine h_t (y := nI D) (by rw [hD]) ?_
    refine h_n (st2 := [_]) rfl ?_
    iterate 2 refine h_s rfl ?_
    refine hM_ne rfl rfl rfl rfl (by omega) (fun h208 => ?_) (fun h208 => ?_)
    · iterate 2 refine h_s rfl ?_
      refine h_Ndiv rfl rfl rfl (by omega) (by omega) (by omega) ?_
      have e1 : pt = 1 := by omega
      refine h_ri rfl ?_ ⟨rfl, R4, FF⟩
      rw [e1, hS1]
    · iterate 2 refine h_s rfl ?_
      refine h_Ndiv rfl rfl rfl (by omega) (by omega) (by omega) ?_
      refine h_s rfl ?_
      refine h_ri rfl ?_ ⟨rfl, R4, FF⟩
      rw [h208, hS0]
end SHR
