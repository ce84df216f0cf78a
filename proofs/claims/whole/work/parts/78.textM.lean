/-! TEXT: the reference reads it all -/
section MK8
variable {X : List Int32} {w w1 : ab_W} {s : List Int32} {n : Nat} {st ks : List Int32} {kp : Bool} {tp : List Int32} {tn : Nat} {bo so nu : List Int32}
theorem MT.mw {w0 : ab_W} {s2 : List Int32} {n2 tn2 : Nat} {fr to vl : Int32} {wr : Bool} (R : MW w0 s n st ks kp tp tn bo so nu) (T : MT w s2 n2 kp tp tn2 fr to vl wr) (F : ∀ j, j ≠ 54 → j ≠ 55 → w[j]? = w0[j]?) : MW w s2 n2 st ks kp tp tn2 bo so nu := by
  obtain ⟨oth, nz, mv, fr0, to0, vl0, wr0, a54, a55, a56, a57, a58, a59, a60, a61, a62, a63, a64, l, h0, hn, ht⟩ := R
  obtain ⟨b54, b55, b60, bl, b0, bn, tl, htn⟩ := T
  exact ⟨oth, nz, mv, fr, to, vl, wr, b54, b55, (F _ (by decide) (by decide)).trans a56, (F _ (by decide) (by decide)).trans a57, (F _ (by decide) (by decide)).trans a58, (F _ (by decide) (by decide)).trans a59, b60, (F _ (by decide) (by decide)).trans a61, (F _ (by decide) (by decide)).trans a62, (F _ (by decide) (by decide)).trans a63, (F _ (by decide) (by decide)).trans a64, ⟨bl, l.2⟩, b0, bn, htn⟩
/-- after an item -/
def rdNx (tp : List Int32) (tn g c i : Nat) (s : List Int32) (n : Nat) : PR := if tsN tp tn (tP tp tn i) = 0 then ⟨true, c, s, n⟩ else if tsN tp tn (tP tp tn i) = 3 then rdAll tp tn g (c + 1) (i + 1) s n else ⟨false, i, s, n⟩
/-- the state after an item: good, or wrong -/
def MZ (w : ab_W) (kp : Bool) (tp : List Int32) (tn : Nat) (A : PR) (g c lo : Nat) : Prop := (∃ i s2 n2 vl, MTk w s2 n2 kp tp tn i vl false ∧ lo ≤ i ∧ A = rdNx tp tn g c i s2 n2) ∨ ∃ i s' n' vl, MTk w s' n' kp tp tn i vl true ∧ A.ok = false ∧ A.i = i
theorem MI.z {v : Option Value} {g c i : Nat} {s2 : List Int32} {n2 : Nat} {A : PR} (h : MI w kp tp tn (rdItem tp tn i s2 n2) v w1) (hA : A = rdAll tp tn (g + 1) c i s2 n2) : MZ w1 kp tp tn A g c (i + 1) := by
  obtain ⟨-, h, -⟩ := h
  obtain ⟨p, hp⟩ : ∃ p, rdItem tp tn i s2 n2 = p := ⟨_, rfl⟩
  have hpi : p.ok = true → i + 1 ≤ p.i := fun q => by rw [← hp] at q ⊢; exact rdItem_i q
  rw [rdAll, hp] at hA
  rw [hp] at h
  rcases h with ⟨ok, vl, T⟩ | ⟨hb, s', n', vl, T⟩
  · rw [if_pos ok] at hA
    exact Or.inl ⟨_, _, _, _, T, hpi ok, hA⟩
  · refine Or.inr ⟨_, _, _, _, T, ?_⟩
    cases ok : p.ok with
    | false =>
      rw [if_neg (by rw [ok]; decide)] at hA
      rw [hA]
      exact ⟨rfl, rfl⟩
    | true =>
      rcases hb with q | q
      · rw [ok] at q; cases q
      · rw [if_pos ok, if_neg (by rw [q]; decide), if_neg (by rw [q]; decide)] at hA
        rw [hA]
        exact ⟨rfl, rfl⟩
set_option maxRecDepth 100000 in
set_option maxHeartbeats 4000000 in
theorem m_text74 {w0 : ab_W} {s2 : List Int32} {n2 i : Nat} {vl : Int32} (R : MW w0 s n st ks kp tp tn bo so nu) (T : MTk w s2 n2 kp tp tn i vl false) (F : ∀ j, j ≠ 54 → j ≠ 55 → w[j]? = w0[j]?) {c : Nat} : ab_H X kX6_text 74 [some (.ref 54), some (.int (nI c))] [] w (fun v w' => v = some (.int (nI c)) ∧ MW w' s2 n2 st ks kp tp 0 bo so nu ∧ ∀ j, j < 54 → w'[j]? = w[j]?) := by
  have T1 := T
  obtain ⟨a54, a55, a60, hl, h0, hn, tl, htn⟩ := id T
  refine h_s rfl ?_
  refine h_k (y := 0) rfl rfl ?_
  refine h_pf rfl rfl a54 rfl (fun w5 e5 f5 => ?_)
  have T5 := T1.fr54 (tn1 := 0) e5 (by decide) f5
  have a54 := e5
  have F5 := fun j h1 h2 => (f5 j h1).trans (F j h1 h2)
  have R5 := T5.mw R F5
  refine h_s rfl ?_
  refine h_gf rfl rfl rfl a54 rfl ?_
  refine hz_eq rfl rfl (fun h83 => ?_) (fun h83 => absurd (show (true = false) from h83.symm.trans (show _ = false from rfl)) (by decide))
  refine h_s rfl ?_
  exact h_ri rfl rfl ⟨rfl, R5, fun j hj => f5 j (by omega)⟩
set_option maxRecDepth 100000 in
set_option maxHeartbeats 4000000 in
theorem m_text74W {w0 : ab_W} {s2 : List Int32} {n2 i : Nat} {vl : Int32} {x : Value} (R : MW w0 s n st ks kp tp tn bo so nu) (T : MTk w s2 n2 kp tp tn i vl true) (F : ∀ j, j ≠ 54 → j ≠ 55 → w[j]? = w0[j]?) (ho : w0[57]? = some (.inr s)) (ho0 : s.getD 0 0 = nI n) (hon : n ≤ 8) : ab_H X kX6_text 74 [some (.ref 54), some x] [] w (fun v w' => v = some (.int (-1 - nI (tP tp tn i))) ∧ MW w' s n st ks kp tp 0 bo so nu ∧ ∀ j, j < 54 → w'[j]? = w[j]?) := by
  have T1 := T
  obtain ⟨a54, a55, a60, hl, h0, hn, tl, htn⟩ := id T
  refine h_s rfl ?_
  refine h_k (y := 0) rfl rfl ?_
  refine h_pf rfl rfl a54 rfl (fun w5 e5 f5 => ?_)
  have T5 := T1.fr54 (tn1 := 0) e5 (by decide) f5
  have a54 := e5
  have F5 := fun j h1 h2 => (f5 j h1).trans (F j h1 h2)
  have R5 := T5.mw R F5
  refine h_s rfl ?_
  refine h_gf rfl rfl rfl a54 rfl ?_
  refine hz_eq rfl rfl (fun h83 => absurd (show (true = false) from (show _ = true from rfl).symm.trans h83) (by decide)) (fun h83 => ?_)
  refine h_s rfl ?_
  refine hq_v rfl rfl rfl a54 rfl rfl (m_putsBack R5 s n ((F5 57 (by decide) (by decide)).trans ho) ho0 hon) (fun v6 w6 q6 => ?_)
  obtain ⟨rfl, R6, f6⟩ := q6
  have a54 := (f6 54 (by decide)).trans a54
  refine h_n (st2 := []) rfl ?_
  refine h_k (y := (-1)) rfl rfl ?_
  refine h_s rfl ?_
  refine h_gf rfl rfl rfl a54 rfl ?_
  refine h_s rfl ?_
  exact h_ri rfl rfl ⟨rfl, R6, fun j hj => (f6 j (by omega)).trans (f5 j (by omega))⟩
set_option maxRecDepth 100000 in
set_option maxHeartbeats 4000000 in
theorem m_text (R : MW w s n st ks kp tp tn bo so nu) : ab_Q X kX6_text [.ref 54] w (fun v w' => ((rdAll tp tn 121 1 0 s n).ok = true → MP w (nI (rdAll tp tn 121 1 0 s n).i) (rdAll tp tn 121 1 0 s n).s (rdAll tp tn 121 1 0 s n).n st ks kp tp 0 bo so nu v w') ∧ ((rdAll tp tn 121 1 0 s n).ok = false → MP w (-1 - nI (tP tp tn (rdAll tp tn 121 1 0 s n).i)) s n st ks kp tp 0 bo so nu v w')) := by
  have M := R.ms
  have R0 := R
  have RC := R0
  obtain ⟨oth, nz, mv, fr, to, vl, wr, a54, a55, a56, a57, a58, a59, a60, a61, a62, a63, a64, l, h0, hn, ht⟩ := R
  show ab_H X kX6_text 0 [some (.ref 54), none] [] w _
  refine h_s rfl ?_
  refine hq_v rfl rfl rfl a54 rfl rfl (m_puts R0) (fun v1 w1 q1 => ?_)
  obtain ⟨rfl, R1, h57, g1⟩ := q1
  clear a54 a55 a56 a57 a58 a59 a60 a61 a62 a63 a64 l h0 hn ht
  obtain ⟨oth, nz, mv, fr, to, vl, wr, a54, a55, a56, a57, a58, a59, a60, a61, a62, a63, a64, l, h0, hn, ht⟩ := id R1
  have h0s := h0
  have hns := hn
  refine h_n (st2 := []) rfl ?_
  refine h_s rfl ?_
  refine h_k (y := 0) rfl rfl ?_
  refine h_pf rfl rfl a54 rfl (fun w2 e2 f2 => ?_)
  have a54 := e2
  refine h_s rfl ?_
  refine h_k (y := 0) rfl rfl ?_
  refine h_pf rfl rfl a54 rfl (fun w3 e3 f3 => ?_)
  have T : MT w3 s n kp tp tn fr (nI 0) vl false := ⟨e3, (f3 55 (by decide)).trans ((f2 55 (by decide)).trans a55), (f3 60 (by decide)).trans ((f2 60 (by decide)).trans a60), l.1, h0, hn, by omega, ht⟩
  have F : ∀ j, j ≠ 54 → j ≠ 55 → w3[j]? = w1[j]? := fun j h1 _ => (f3 j h1).trans (f2 j h1)
  have a54 := e3
  refine h_s rfl ?_
  refine hq_v rfl rfl rfl a54 rfl rfl (m_token (e := 0) T (Nat.zero_le _)) (fun v4 w4 q4 => ?_)
  obtain ⟨rfl, T, g4⟩ := q4
  have T : MTk w4 s n kp tp tn 0 vl false := T
  have F := fun j h1 h2 => (g4 j h1).trans (F j h1 h2)
  have T1 := T
  have a54 := T.1
  refine h_n (st2 := []) rfl ?_
  refine h_k (y := 1) rfl rfl ?_
  iterate 2 refine h_s rfl ?_
  refine hq_v rfl rfl rfl a54 rfl rfl (m_item T1) (fun v9 w9 q9 => ?_)
  have f9 := q9.2.2
  have q9z := MI.z (g := 120) (c := 1) q9 rfl
  obtain ⟨rfl, -, -⟩ := q9
  refine h_n (st2 := []) rfl ?_
  refine h_loop0 121 (fun k ls v => ls = [some (.ref 54), some (.int (nI (k + 1)))] ∧ (∀ j, j ≠ 54 → j ≠ 55 → v[j]? = w1[j]?) ∧ MZ v kp tp tn (rdAll tp tn 121 1 0 s n) (120 - k) (k + 1) (2 * k + 1)) ⟨rfl, fun j h1 h2 => (f9 j h1 h2).trans (F j h1 h2), ?_⟩ (fun k ls v hk hJ ih => ?_) (fun ls v hJ => ?_)
  · exact q9z
  · obtain ⟨rfl, F, hZ⟩ := hJ
    rcases hZ with ⟨i, s2, n2, vl, T, hlo, hA⟩ | ⟨i, s', n', vl, T, hok, hAi⟩
    · have hP := tP_le (tp := tp) (tn := tn) i
      have T1 := T
      obtain ⟨a54, a55, a60, hl, h0, hn, tl, htn⟩ := id T
      refine h_s rfl ?_
      refine h_gf rfl rfl rfl a54 rfl ?_
      refine hz_ne rfl rfl (fun h28 => absurd (show (true = false) from h28.symm.trans (show _ = false from rfl)) (by decide)) (fun h28 => ?_)
      refine h_s rfl ?_
      refine h_gf rfl rfl rfl a54 rfl ?_
      refine h_s rfl ?_
      refine h_gf rfl rfl rfl a54 rfl ?_
      refine hN_ge rfl rfl rfl rfl (by omega) (by omega) (fun h39 => ?_) (fun h39 => ?_)
      · obtain ⟨v7, w7, q7, r7⟩ := m_text74 (X := X) R1 T F (c := k + 1)
        refine ⟨v7, w7, q7, ?_⟩
        rw [hA, show rdNx tp tn (120 - k) (k + 1) i s2 n2 = ⟨true, k + 1, s2, n2⟩ from if_pos (ts_0.mpr (by omega))]
        refine ⟨fun _ => ⟨r7.1, r7.2.1, fun j hj => (r7.2.2 j hj).trans ((F j (by omega) (by omega)).trans (g1 j (by omega)))⟩, fun q => by cases q⟩
      · iterate 3 refine h_s rfl ?_
        refine h_gf rfl rfl rfl a54 rfl ?_
        refine h_cv rfl rfl rfl a54 rfl rfl (m_byteAt T1 (a := tP tp tn i) (by omega)) ?_
        refine h_n (st2 := [_, _]) rfl ?_
        refine h_k (y := 59) rfl rfl ?_
        refine h2_ne rfl rfl (fun h53 => ?_) (fun h53 => ?_)
        · refine h_k (y := 0) rfl rfl ?_
          refine hq_v rfl rfl rfl a54 rfl rfl (m_wants T1 false) (fun v65 w65 q65 => ?_)
          obtain ⟨rfl, T, g65⟩ := q65
          replace T := (T.resolve_left (fun q => by cases q.1)).2
          have F := fun j h1 h2 => (g65 j h1).trans (F j h1 h2)
          have T1 := T
          obtain ⟨a54, a55, a60, hl, h0, hn, tl, htn⟩ := id T
          refine h_n (st2 := []) rfl ?_
          refine h_s rfl ?_
          refine hq_v rfl rfl rfl a54 rfl rfl (m_itemW T1) (fun v9 w9 q9 => ?_)
          obtain ⟨rfl, T, f9⟩ := q9
          refine h_n (st2 := []) rfl ?_
          refine h_ii rfl rfl rfl ?_
          refine h_s rfl ?_
          obtain ⟨s', n', vl', T⟩ := T
          refine ih _ _ ⟨rfl, fun j h1 h2 => (f9 j h1 h2).trans (F j h1 h2), Or.inr ⟨_, _, _, _, T, ?_⟩⟩
          rw [hA, rdNx, if_neg (by rw [ts_0]; omega), if_neg (fun q => h53 (ts_sg.mp q))]
          exact ⟨rfl, rfl⟩
        · refine h_k (y := 1) rfl rfl ?_
          refine h_s rfl ?_
          refine hq_v rfl rfl rfl a54 rfl rfl (m_wants T1 true) (fun v66 w66 q66 => ?_)
          obtain ⟨rfl, T, g66⟩ := q66
          replace T := (T.resolve_right (fun q => by cases q.1)).2
          have F := fun j h1 h2 => (g66 j h1).trans (F j h1 h2)
          have T1 := T
          obtain ⟨a54, a55, a60, hl, h0, hn, tl, htn⟩ := id T
          refine h_n (st2 := []) rfl ?_
          refine h_s rfl ?_
          have h3 : tsN tp tn (tP tp tn i) = 3 := ts_sg.mpr h53
          have hi120 := tP_120 (tp := tp) (i := i) htn (by omega)
          obtain ⟨g, hg⟩ : ∃ g, 120 - k = g + 1 := ⟨119 - k, by omega⟩
          have hA3 : rdAll tp tn 121 1 0 s n = rdAll tp tn (g + 1) (k + 1 + 1) (i + 1) s2 n2 := by
            rw [hA, rdNx, if_neg (by rw [h3]; decide), if_pos h3, hg]
          refine hq_v rfl rfl rfl a54 rfl rfl (m_item T1) (fun v9 w9 q9 => ?_)
          have f9 := q9.2.2
          have q9z := MI.z q9 hA3
          obtain ⟨rfl, -, -⟩ := q9
          refine h_n (st2 := []) rfl ?_
          refine h_ii rfl rfl rfl ?_
          refine h_s rfl ?_
          rw [show g = 120 - (k + 1) by omega] at q9z
          refine ih _ _ ⟨rfl, fun j h1 h2 => (f9 j h1 h2).trans (F j h1 h2), ?_⟩
          rcases q9z with ⟨i', s3, n3, vl3, T3, hlo3, hA4⟩ | q9z
          · exact Or.inl ⟨i', s3, n3, vl3, T3, by omega, hA4⟩
          · exact Or.inr q9z
    · have hP := tP_le (tp := tp) (tn := tn) i
      have T1 := T
      obtain ⟨a54, a55, a60, hl, h0, hn, tl, htn⟩ := id T
      refine h_s rfl ?_
      refine h_gf rfl rfl rfl a54 rfl ?_
      refine hz_ne rfl rfl (fun h28 => ?_) (fun h28 => absurd (show (true = false) from (show _ = true from rfl).symm.trans h28) (by decide))
      obtain ⟨v7, w7, q7, r7⟩ := m_text74W (X := X) R1 T F h57 h0s hns
      refine ⟨v7, w7, q7, ?_⟩
      refine ⟨fun q => absurd (hok.symm.trans q) (by decide), fun _ => ⟨by rw [hAi]; exact r7.1, r7.2.1, fun j hj => (r7.2.2 j hj).trans ((F j (by omega) (by omega)).trans (g1 j (by omega)))⟩⟩
  · obtain ⟨rfl, F, hZ⟩ := hJ
    rcases hZ with ⟨i, s2, n2, vl, T, hlo, hA⟩ | ⟨i, s', n', vl, T, hok, hAi⟩
    · have hP := tP_le (tp := tp) (tn := tn) i
      have T1 := T
      obtain ⟨a54, a55, a60, hl, h0, hn, tl, htn⟩ := id T
      have hge : tn ≤ tP tp tn i := by
        rcases Nat.lt_or_ge (tP tp tn i) tn with q | q
        · have := tP_120 htn q; omega
        · exact q
      refine h_s rfl ?_
      refine h_gf rfl rfl rfl a54 rfl ?_
      refine hz_ne rfl rfl (fun h28 => absurd (show (true = false) from h28.symm.trans (show _ = false from rfl)) (by decide)) (fun h28 => ?_)
      refine h_s rfl ?_
      refine h_gf rfl rfl rfl a54 rfl ?_
      refine h_s rfl ?_
      refine h_gf rfl rfl rfl a54 rfl ?_
      refine hN_ge rfl rfl rfl rfl (by omega) (by omega) (fun h39 => ?_) (fun h39 => absurd (by omega) h39)
      obtain ⟨v7, w7, q7, r7⟩ := m_text74 (X := X) R1 T F (c := 121 + 1)
      refine ⟨v7, w7, q7, ?_⟩
      rw [hA, show rdNx tp tn (120 - 121) (121 + 1) i s2 n2 = ⟨true, 121 + 1, s2, n2⟩ from if_pos (ts_0.mpr (by omega))]
      refine ⟨fun _ => ⟨r7.1, r7.2.1, fun j hj => (r7.2.2 j hj).trans ((F j (by omega) (by omega)).trans (g1 j (by omega)))⟩, fun q => by cases q⟩
    · have hP := tP_le (tp := tp) (tn := tn) i
      have T1 := T
      obtain ⟨a54, a55, a60, hl, h0, hn, tl, htn⟩ := id T
      refine h_s rfl ?_
      refine h_gf rfl rfl rfl a54 rfl ?_
      refine hz_ne rfl rfl (fun h28 => ?_) (fun h28 => absurd (show (true = false) from (show _ = true from rfl).symm.trans h28) (by decide))
      obtain ⟨v7, w7, q7, r7⟩ := m_text74W (X := X) R1 T F h57 h0s hns
      refine ⟨v7, w7, q7, ?_⟩
      refine ⟨fun q => absurd (hok.symm.trans q) (by decide), fun _ => ⟨by rw [hAi]; exact r7.1, r7.2.1, fun j hj => (r7.2.2 j hj).trans ((F j (by omega) (by omega)).trans (g1 j (by omega)))⟩⟩
end MK8
