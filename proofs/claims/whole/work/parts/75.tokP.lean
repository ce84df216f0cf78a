/-! TEXT: the reference takes a number; kinds -/
section MN
variable {X : List Int32} {w w1 : ab_W} {s : List Int32} {n : Nat} {kp : Bool} {tp : List Int32} {tn a e i : Nat} {fr to vl : Int32} {wr : Bool}
set_option maxRecDepth 100000 in
set_option maxHeartbeats 4000000 in
theorem m_number (T : MTk w s n kp tp tn i vl false) {b : Nat} (hb : b ≤ 1000) {hi : Int32} (hh : hi.toInt64.toInt = (b : Int) - 1) : ab_Q X kX6_number [.ref 54, .int 0, .int hi] w (fun v w1 => v = none ∧ ((tkN tp tn i b = true ∧ MTk w1 s n kp tp tn (i + 1) (nI (tnV tp tn i)) false) ∨ (tkN tp tn i b = false ∧ ∃ vl, MTk w1 s n kp tp tn i vl true)) ∧ ∀ j, j ≠ 54 → w1[j]? = w[j]?) := by
  have T1 := T
  have T0 := T
  obtain ⟨a54, a55, a60, hl, h0, hn, tl, htn⟩ := T
  have F : ∀ j, j ≠ 54 → w[j]? = w[j]? := fun _ _ => rfl
  have hP := tP_le (tp := tp) (tn := tn) i
  have hE := tk_le (tp := tp) (tn := tn) hP
  have hge := tk_ge (tp := tp) (tn := tn) (i := i)
  have hT : tnV tp tn i = nvF tp (tP tp tn i) (runE dgB tp tn (tP tp tn i) - tP tp tn i) := rfl
  have hTN := tkN_m (tp := tp) (tn := tn) (i := i) (b := b) hb
  have hdg0 : dgB (byt tp tn (tP tp tn i)) = true → ∀ j, tP tp tn i ≤ j → j < tkE tp tn (tP tp tn i) → dgB (tp.getD j 0) = true := fun q j h1 h2 => by
    rw [tk_dg q] at h2
    exact ((run_ok (p := dgB) (tp := tp) (tn := tn) (a := tP tp tn i)).2.1 j h1 h2).2
  have hE0 : dgB (byt tp tn (tP tp tn i)) = true → tkE tp tn (tP tp tn i) = runE dgB tp tn (tP tp tn i) := fun q => tk_dg q
  obtain ⟨a, hPa⟩ : ∃ a, tP tp tn i = a := ⟨_, rfl⟩
  rw [hPa] at a54 hge hE hP hT hTN hdg0 hE0
  obtain ⟨e, hEe⟩ : ∃ e, tkE tp tn a = e := ⟨_, rfl⟩
  rw [hEe] at a54 hge hE hdg0 hE0
  obtain ⟨bd, hbd⟩ : ∃ bd, dgB (byt tp tn a) = bd := ⟨_, rfl⟩
  rw [hbd] at hTN hdg0 hE0
  show ab_H X kX6_number 0 [some (.ref 54), some (.int 0), some (.int hi), none, none, none] [] w _
  refine h_s rfl ?_
  refine h_gf rfl rfl rfl a54 rfl ?_
  refine hz_eq rfl rfl (fun h4 => ?_) (fun h4 => absurd (show (true = false) from h4.symm.trans (show _ = false from rfl)) (by decide))
  iterate 2 refine h_s rfl ?_
  refine h_gf rfl rfl rfl a54 rfl ?_
  refine h_cv rfl rfl rfl a54 rfl rfl (m_byteAt T0 (a := a) (by omega)) ?_
  refine h_n (st2 := [_]) rfl ?_
  refine h_c rfl (m_isDigit _) ?_
  refine h_n (st2 := [_]) rfl ?_
  rw [hbd]
  refine h_s rfl ?_
  refine h_k (y := 0) rfl rfl ?_
  iterate 2 refine h_s rfl ?_
  refine h_gf rfl rfl rfl a54 rfl ?_
  refine h_s rfl ?_
  cases bd with
  | false =>
    iterate 2 refine h_s rfl ?_
    refine h_gf rfl rfl rfl a54 rfl ?_
    refine hN_ge rfl rfl rfl rfl (by omega) (by omega) (fun h35 => ?_) (fun h35 => ?_)
    · iterate 2 refine h_s rfl ?_
      refine h_pf rfl rfl a54 rfl (fun w5 e5 f5 => ?_)
      iterate 2 refine h_s rfl ?_
      refine hz_eq rfl rfl (fun h87 => ?_) (fun h87 => absurd (show (true = false) from h87.symm.trans (show _ = false from rfl)) (by decide))
      refine h_k (y := 0) rfl rfl ?_
      have a54 : w5[54]? = some (.inl (6, mObj kp tn (nI a) (nI e) (nI 0) false)) := e5
      have T5 := T0.fr54 a54 htn f5
      have T6 : MTk w5 s n kp tp tn i (nI 0) false := by
        unfold MTk
        rw [hPa, hEe]
        exact T5
      refine hq_v rfl rfl rfl a54 rfl rfl (m_wants T6 false) (fun v6 w6 q6 => ?_)
      obtain ⟨rfl, q6, f6⟩ := q6
      refine h_n (st2 := []) rfl ?_
      rcases q6 with ⟨q, -⟩ | ⟨-, q6⟩
      · cases q
      · exact h_r rfl ⟨rfl, Or.inr ⟨by rw [hTN, Bool.false_and], _, q6⟩, fun j hj => (f6 j hj).trans (f5 j hj)⟩
    · refine h_s rfl ?_
      refine hz_eq rfl rfl (fun h39 => ?_) (fun h39 => absurd (show (true = false) from h39.symm.trans (show _ = false from rfl)) (by decide))
      iterate 2 refine h_s rfl ?_
      refine h_pf rfl rfl a54 rfl (fun w5 e5 f5 => ?_)
      iterate 2 refine h_s rfl ?_
      refine hz_eq rfl rfl (fun h87 => ?_) (fun h87 => absurd (show (true = false) from h87.symm.trans (show _ = false from rfl)) (by decide))
      refine h_k (y := 0) rfl rfl ?_
      have a54 : w5[54]? = some (.inl (6, mObj kp tn (nI a) (nI e) (nI 0) false)) := e5
      have T5 := T0.fr54 a54 htn f5
      have T6 : MTk w5 s n kp tp tn i (nI 0) false := by
        unfold MTk
        rw [hPa, hEe]
        exact T5
      refine hq_v rfl rfl rfl a54 rfl rfl (m_wants T6 false) (fun v6 w6 q6 => ?_)
      obtain ⟨rfl, q6, f6⟩ := q6
      refine h_n (st2 := []) rfl ?_
      rcases q6 with ⟨q, -⟩ | ⟨-, q6⟩
      · cases q
      · exact h_r rfl ⟨rfl, Or.inr ⟨by rw [hTN, Bool.false_and], _, q6⟩, fun j hj => (f6 j hj).trans (f5 j hj)⟩
  | true =>
    have hE1 := hE0 rfl
    have hdg := hdg0 rfl
    rw [← hE1] at hT
    refine h_loop0 (e - a) (fun k ls v => v = w ∧ ls = [some (.ref 54), some (.int 0), some (.int hi), some (.int (z01 true)), some (.int (nI (nvF tp a k))), some (.int (nI (a + k)))]) ⟨rfl, rfl⟩ (fun k ls v hk hJ ih => ?_) (fun ls v hJ => ?_)
    · obtain ⟨rfl, rfl⟩ := hJ
      obtain ⟨hx, hd9⟩ := dg_e (hdg (a + k) (by omega) (by omega))
      have hle := nv_le (tp := tp) (a := a) (k := k) (fun j hj => hdg (a + j) (by omega) (by omega))
      obtain ⟨V, hV⟩ : ∃ V, nvF tp a k = V := ⟨_, rfl⟩
      have hs : nvF tp a (k + 1) = if 999 < V then V else 10 * V + dvN (tp.getD (a + k) 0) := by rw [nvF, hV]
      rw [hV] at hle ⊢
      iterate 2 refine h_s rfl ?_
      refine h_gf rfl rfl rfl a54 rfl ?_
      refine hN_ge rfl rfl rfl rfl (by omega) (by omega) (fun h35 => absurd h35 (by omega)) (fun h35 => ?_)
      refine h_s rfl ?_
      refine hz_eq rfl rfl (fun h39 => absurd (show (true = false) from (show _ = true from rfl).symm.trans h39) (by decide)) (fun h39 => ?_)
      refine h_s rfl ?_
      refine h_k (y := 999) rfl rfl ?_
      refine hN_le (b := 999) rfl rfl rfl rfl (by omega) (by omega) (fun h47 => ?_) (fun h47 => ?_)
      · refine h_k (y := 10) rfl rfl ?_
        refine h_s rfl ?_
        refine h_Nmul (a := 10) rfl rfl rfl ?_
        refine h_s rfl ?_
        refine h_gf rfl rfl rfl a54 rfl ?_
        refine h_s rfl ?_
        refine h_ia (a + k) rfl a60 (by omega) rfl (by omega) ?_
        refine h_t hx ?_
        refine h_Nadd rfl rfl rfl ?_
        refine h_k (y := 48) rfl rfl ?_
        refine h_Nsub (b := 48) rfl rfl rfl (by omega) ?_
        refine h_s rfl ?_
        refine h_ii rfl rfl rfl ?_
        refine h_s rfl ?_
        refine ih _ _ ⟨rfl, ?_⟩
        rw [hs, if_neg (by omega), show 10 * V + dvN (tp.getD (a + k) 0) = 10 * V + (48 + dvN (tp.getD (a + k) 0)) - 48 by omega]
        rfl
      · iterate 3 refine h_s rfl ?_
        refine h_ii rfl rfl rfl ?_
        refine h_s rfl ?_
        refine ih _ _ ⟨rfl, ?_⟩
        rw [hs, if_pos (by omega)]
        rfl
    · obtain ⟨rfl, rfl⟩ := hJ
      have hle := nv_le (tp := tp) (a := a) (k := e - a) (fun j hj => hdg (a + j) (by omega) (by omega))
      obtain ⟨V, hV⟩ : ∃ V, nvF tp a (e - a) = V := ⟨_, rfl⟩
      rw [hV] at hle hT ⊢
      have hVT : V = tnV tp tn i := hT.symm
      iterate 2 refine h_s rfl ?_
      refine h_gf rfl rfl rfl a54 rfl ?_
      refine hN_ge rfl rfl rfl rfl (by omega) (by omega) (fun h35 => ?_) (fun h35 => absurd (by omega) h35)
      iterate 2 refine h_s rfl ?_
      refine h_pf rfl rfl a54 rfl (fun w5 e5 f5 => ?_)
      iterate 2 refine h_s rfl ?_
      refine hz_eq rfl rfl (fun h87 => absurd (show (true = false) from (show _ = true from rfl).symm.trans h87) (by decide)) (fun h87 => ?_)
      iterate 6 refine h_s rfl ?_
      refine h_c rfl (m_inZ (m := b) (nI V) rfl hh) ?_
      refine h_n (st2 := [_, _]) rfl ?_
      refine hz_eq rfl rfl (fun h100 => ?_) (fun h100 => ?_)
      · refine h_k (y := 0) rfl rfl ?_
        have a54 : w5[54]? = some (.inl (6, mObj kp tn (nI a) (nI e) (nI V) false)) := e5
        have T5 := T0.fr54 a54 htn f5
        have T6 : MTk w5 s n kp tp tn i (nI V) false := by
          unfold MTk
          rw [hPa, hEe]
          exact T5
        refine hq_v rfl rfl rfl a54 rfl rfl (m_wants T6 false) (fun v6 w6 q6 => ?_)
        obtain ⟨rfl, q6, f6⟩ := q6
        refine h_n (st2 := []) rfl ?_
        rcases q6 with ⟨q, -⟩ | ⟨-, q6⟩
        · cases q
        · exact h_r rfl ⟨rfl, Or.inr ⟨by rw [hTN, Bool.true_and, ← hVT, ← inN_nI (m := b) (show V < 2 ^ 31 by omega)]; exact h100, _, q6⟩, fun j hj => (f6 j hj).trans (f5 j hj)⟩
      · refine h_k (y := 1) rfl rfl ?_
        refine h_s rfl ?_
        have a54 : w5[54]? = some (.inl (6, mObj kp tn (nI a) (nI e) (nI V) false)) := e5
        have T5 := T0.fr54 a54 htn f5
        have T6 : MTk w5 s n kp tp tn i (nI V) false := by
          unfold MTk
          rw [hPa, hEe]
          exact T5
        refine hq_v rfl rfl rfl a54 rfl rfl (m_wants T6 true) (fun v6 w6 q6 => ?_)
        obtain ⟨rfl, q6, f6⟩ := q6
        refine h_n (st2 := []) rfl ?_
        rcases q6 with ⟨-, q6⟩ | ⟨q, -⟩
        · rw [inN_nI (by omega), decide_eq_true_eq] at h100
          exact h_r rfl ⟨rfl, Or.inl ⟨by rw [hTN, ← hVT, decide_eq_true h100]; rfl, by rw [← hVT]; exact q6⟩, fun j hj => (f6 j hj).trans (f5 j hj)⟩
        · cases q
set_option maxRecDepth 100000 in
set_option maxHeartbeats 4000000 in
theorem m_numberW (T : MTk w s n kp tp tn i vl true) (lo hi : Int32) : ab_Q X kX6_number [.ref 54, .int lo, .int hi] w (fun v w1 => v = none ∧ w1 = w) := by
  have T1 := T
  have T0 := T
  obtain ⟨a54, a55, a60, hl, h0, hn, tl, htn⟩ := T
  have F : ∀ j, j ≠ 54 → w[j]? = w[j]? := fun _ _ => rfl
  have hP := tP_le (tp := tp) (tn := tn) i
  have hE := tk_le (tp := tp) (tn := tn) hP
  show ab_H X kX6_number 0 [some (.ref 54), some (.int lo), some (.int hi), none, none, none] [] w _
  refine h_s rfl ?_
  refine h_gf rfl rfl rfl a54 rfl ?_
  refine hz_eq rfl rfl (fun h4 => absurd (show (true = false) from (show _ = true from rfl).symm.trans h4) (by decide)) (fun h4 => ?_)
  exact h_r rfl ⟨rfl, rfl⟩
end MN
