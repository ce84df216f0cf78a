/-! NOISE, in both: the calls -/
section NQX
variable {X : List Int32} {w w1 : ab_W} {r : Nat} {s : List Int32} {n : Nat} {st ks : List Int32} {kp : Bool} {tp : List Int32} {tn : Nat} {bo so nu : List Int32}
set_option maxRecDepth 100000 in
set_option maxHeartbeats 4000000 in
theorem x_quietest {c : Int32} (p0 : w[34]? = some (.inl (1, [.ref 35, .ref 36, .ref 37, .ref 38]))) (P1 : ∃ jo, w[35]? = some (.inr jo) ∧ jo.length = 16 ∧ ∀ r, r < 16 → jo.getD r 0 = bs (adjB s n r) 16) (P2 : ∃ wl, w[36]? = some (.inr wl) ∧ wl.length = 16 ∧ ∀ r, r < 16 → wl.getD r 0 = nI (wkN s n c r)) (P3 : ∃ la, w[37]? = some (.inr la) ∧ la.length = 16) (P4 : ∃ no, w[38]? = some (.inr no) ∧ no.length = 16) (I : SI s n) (hn : n ≤ 8) {f m : Nat} (hm : m < 16) : ab_Q X kX1_quietest [.ref 34, .int (nI m), .int (bs (lqB s n f c) 8)] w (fun v w1 => v = some (.int (encI (noiN s n f c 16 m))) ∧ PlanX w1 ∧ ∀ i, i ≠ 38 → w1[i]? = w[i]?) := by
  have hwk : ∀ r, wkN s n c r ≤ 10 := fun r => (wak_N I c r).2
  obtain ⟨no, p4, nl⟩ := P4
  show ab_H X kX1_quietest 0 [some (.ref 34), some (.int (nI m)), some (.int (bs (lqB s n f c) 8)), none, none, none, none] [] w _
  refine h_s rfl ?_
  refine h_c rfl (x_roomsOf (lqB s n f c)) ?_
  refine h_n (st2 := [_]) rfl ?_
  refine h_s rfl ?_
  refine h_k (y := 0) rfl rfl ?_
  refine h_s rfl ?_
  refine h_loop0 16 (fun i ls v => (∃ y5 y6, ls = [some (.ref 34), some (.int (nI m)), some (.int (bs (lqB s n f c) 8)), some (.int (bs (opB s n f c) 16)), some (.int (nI i)), y5, y6]) ∧ (∀ j, j ≠ 38 → v[j]? = w[j]?) ∧ ∃ no, v[38]? = some (.inr no) ∧ no.length = 16 ∧ ∀ q, q < i → no.getD q 0 = encI (nz0 s n f c q)) ⟨⟨none, none, rfl⟩, fun _ _ => rfl, no, p4, nl, fun q hq => absurd hq (by omega)⟩ (fun i ls v hi hJ ih => ?_) (fun ls v hJ => ?_)
  · obtain ⟨⟨y5, y6, rfl⟩, F, no, p4, nl, g⟩ := hJ
    have p0 := (F 34 (by decide)).trans p0
    refine h_s rfl ?_
    refine h_k (y := 16) rfl rfl ?_
    refine hN_ge (b := 16) rfl rfl rfl rfl (by omega) (by omega) (fun h12 => absurd h12 (by omega)) (fun h12 => ?_)
    refine h_s rfl ?_
    refine h_gf rfl rfl rfl p0 rfl ?_
    refine h_s rfl ?_
    refine h_k (y := 21845) rfl rfl ?_
    refine h_s rfl ?_
    refine h_s rfl ?_
    refine h_t (y := bs (fun q => gB n q && opB s n f c q) 16) (by rw [ev_21845, bs_and (by decide)]; exact bs_cong (fun i _ => by cases h : opB s n f c i with | true => rw [ev_gB hn (by unfold opB at h; simp at h; exact h.1)] | false => rw [Bool.and_false, Bool.and_false])) ?_
    refine h_s rfl ?_
    refine h_c rfl (x_isInB (fun q => gB n q && opB s n f c q) (by decide) hi) ?_
    refine h_n (st2 := [_, _, _]) rfl ?_
    refine hz_eq rfl rfl (fun h31 => ?_) (fun h31 => ?_)
    · refine h_k (y := (-1)) rfl rfl ?_
      refine hq_c rfl (x_put p4 (by omega) (j := i) (by omega) _) (fun v2 w4 q4 => ?_)
      obtain ⟨rfl, e4, f4⟩ := q4
      refine h_n (st2 := []) rfl ?_
      refine h_ii rfl rfl rfl ?_
      refine h_s rfl ?_
      refine ih _ _ ⟨⟨_, _, rfl⟩, fun j hj => (f4 j hj).trans (F j hj), _, e4, by rw [List.length_set]; exact nl, fun q hq => ?_⟩
      rw [gD_set _ _ _ _ (by omega)]
      by_cases e : q = i
      · rw [if_pos e, e]
        unfold nz0
        rw [if_neg (by rw [h31]; decide)]
        rfl
      · rw [if_neg e]
        exact g q (by omega)
    · refine h_k (y := 0) rfl rfl ?_
      refine h_s rfl ?_
      refine hq_c rfl (x_put p4 (by omega) (j := i) (by omega) _) (fun v2 w4 q4 => ?_)
      obtain ⟨rfl, e4, f4⟩ := q4
      refine h_n (st2 := []) rfl ?_
      refine h_ii rfl rfl rfl ?_
      refine h_s rfl ?_
      refine ih _ _ ⟨⟨_, _, rfl⟩, fun j hj => (f4 j hj).trans (F j hj), _, e4, by rw [List.length_set]; exact nl, fun q hq => ?_⟩
      rw [gD_set _ _ _ _ (by omega)]
      by_cases e : q = i
      · rw [if_pos e, e]
        unfold nz0
        rw [if_pos h31]
        rfl
      · rw [if_neg e]
        exact g q (by omega)
  · obtain ⟨⟨y5, y6, rfl⟩, F, no, p4, nl, g⟩ := hJ
    have PN : PlanN v (adjB s n) (wkN s n c) (noiN s n f c 0) := by
      obtain ⟨jo, a1, a2, a3⟩ := P1
      obtain ⟨wl, b1, b2, b3⟩ := P2
      obtain ⟨la, c1, c2⟩ := P3
      exact ⟨(F _ (by decide)).trans p0, ⟨jo, (F _ (by decide)).trans a1, a2, a3⟩, ⟨wl, (F _ (by decide)).trans b1, b2, b3⟩, ⟨la, (F _ (by decide)).trans c1, c2⟩, no, p4, nl, g⟩
    refine h_s rfl ?_
    refine h_k (y := 16) rfl rfl ?_
    refine hN_ge (b := 16) rfl rfl rfl rfl (by omega) (by omega) (fun h12 => ?_) (fun h12 => absurd (by omega) h12)
    refine h_k (y := 1) rfl rfl ?_
    refine h_s rfl ?_
    refine h_k (y := 0) rfl rfl ?_
    refine h_s rfl ?_
    refine h_loop0 16 (fun k ls v => (∃ b y6, ls = [some (.ref 34), some (.int (nI m)), some (.int (bs (lqB s n f c) 8)), some (.int (bs (opB s n f c) 16)), some (.int (z01 b)), some (.int (nI k)), y6] ∧ (b = false → ∀ q, q < 16 → (noiN s n f c 16) q = (noiN s n f c k) q)) ∧ (∀ j, j ≠ 38 → v[j]? = w[j]?) ∧ PlanN v (adjB s n) (wkN s n c) (noiN s n f c k)) ⟨⟨true, y6, rfl, fun q => by cases q⟩, F, PN⟩ (fun k ls v hk hJ ih => ?_) (fun ls v hJ => ?_)
    · obtain ⟨⟨b, y6, rfl, hb⟩, F, PN⟩ := hJ
      have p0 := PN.1
      obtain ⟨no, p4, nl, g⟩ := PN.2.2.2.2
      refine h_s rfl ?_
      refine h_k (y := 16) rfl rfl ?_
      refine hN_ge (b := 16) rfl rfl rfl rfl (by omega) (by omega) (fun h58 => absurd h58 (by omega)) (fun h58 => ?_)
      refine h_s rfl ?_
      refine hz_eq rfl rfl (fun h63 => ?_) (fun h63 => ?_)
      · refine h_s rfl ?_
        refine h_k (y := 16) rfl rfl ?_
        refine h_c rfl (x_isBelow (nI m) 16 (by decide)) ?_
        refine h_t (y := 1) (by rw [inN_n (by decide) hm]; rfl) ?_
        refine h_n (st2 := [_]) rfl ?_
        iterate 2 refine h_s rfl ?_
        refine h_gf rfl rfl rfl p0 rfl ?_
        refine h_s rfl ?_
        refine h_c rfl (x_cell p4 (by omega) (j := m) (by omega)) ?_
        refine h_t (g m hm) ?_
        refine h_n (st2 := [_]) rfl ?_
        refine h_s rfl ?_
        exact h_ri rfl (by rw [hb h63 m hm]) ⟨rfl, PN.px, F⟩
      · refine h_k (y := 0) rfl rfl ?_
        refine h_s rfl ?_
        refine h_k (y := 0) rfl rfl ?_
        refine h_s rfl ?_
        refine h_loop0 16 (fun r ls v2 => (∃ b2, ls = [some (.ref 34), some (.int (nI m)), some (.int (bs (lqB s n f c) 8)), some (.int (bs (opB s n f c) 16)), some (.int (z01 b2)), some (.int (nI k)), some (.int (nI r))] ∧ (b2 = false → ∀ q, q < 16 → rlxN (adjB s n) (opB s n f c) (wkN s n c) (noiN s n f c k) r q = (noiN s n f c k) q)) ∧ (∀ j, j ≠ 38 → v2[j]? = w[j]?) ∧ PlanN v2 (adjB s n) (wkN s n c) (rlxN (adjB s n) (opB s n f c) (wkN s n c) (noiN s n f c k) r)) ⟨⟨false, rfl, fun _ q _ => rfl⟩, F, PN⟩ (fun r ls v2 hr hJ ih2 => ?_) (fun ls v2 hJ => ?_)
        · obtain ⟨⟨b2, rfl, hb2⟩, F, PN⟩ := hJ
          have p0 := PN.1
          refine h_s rfl ?_
          refine h_k (y := 16) rfl rfl ?_
          refine hN_ge (b := 16) rfl rfl rfl rfl (by omega) (by omega) (fun h76 => absurd h76 (by omega)) (fun h76 => ?_)
          iterate 4 refine h_s rfl ?_
          refine hq_v rfl rfl rfl p0 rfl rfl (x_goOnFrom PN hwk (inv_rlxN hwk (noi_inv I k) (show r ≤ 16 by omega)) (m := r) (by omega)) (fun v3 w5 q5 => ?_)
          obtain ⟨⟨b3, rfl, hb3⟩, PN, f5⟩ := q5
          refine h_n (st2 := [_, _]) rfl ?_
          refine h_s rfl ?_
          refine h_t (y := z01 (b2 || b3)) (by cases b2 <;> cases b3 <;> rfl) ?_
          refine h_s rfl ?_
          refine h_ii rfl rfl rfl ?_
          refine h_s rfl ?_
          refine ih2 _ _ ⟨⟨b2 || b3, rfl, fun q => ?_⟩, fun j hj => (f5 j hj).trans (F j hj), PN⟩
          rw [Bool.or_eq_false_iff] at q
          intro y hy
          show rlx _ _ _ _ r y = _
          rw [hb3 q.2 y hy]
          exact hb2 q.1 y hy
        · obtain ⟨⟨b2, rfl, hb2⟩, F, PN⟩ := hJ
          have p0 := PN.1
          refine h_s rfl ?_
          refine h_k (y := 16) rfl rfl ?_
          refine hN_ge (b := 16) rfl rfl rfl rfl (by omega) (by omega) (fun h76 => ?_) (fun h76 => absurd (by omega) h76)
          refine h_ii rfl rfl rfl ?_
          refine h_s rfl ?_
          refine ih _ _ ⟨⟨b2, _, rfl, fun q => ?_⟩, F, PN⟩
          have h1 := hb2 q
          intro y hy
          have h2 := ps_stop (x := nz0 s n f c) (k := k) h1 (16 - k) y hy
          rw [show k + (16 - k) = 16 by omega] at h2
          exact h2.trans (h1 y hy).symm
    · obtain ⟨⟨b, y6, rfl, hb⟩, F, PN⟩ := hJ
      have p0 := PN.1
      have PN0 := PN
      obtain ⟨-, -, -, -, no, p4, nl, g⟩ := PN
      refine h_s rfl ?_
      refine h_k (y := 16) rfl rfl ?_
      refine hN_ge (b := 16) rfl rfl rfl rfl (by omega) (by omega) (fun h58 => ?_) (fun h58 => absurd (by omega) h58)
      refine h_s rfl ?_
      refine h_k (y := 16) rfl rfl ?_
      refine h_c rfl (x_isBelow (nI m) 16 (by decide)) ?_
      refine h_t (y := 1) (by rw [inN_n (by decide) hm]; rfl) ?_
      refine h_n (st2 := [_]) rfl ?_
      iterate 2 refine h_s rfl ?_
      refine h_gf rfl rfl rfl p0 rfl ?_
      refine h_s rfl ?_
      refine h_c rfl (x_cell p4 (by omega) (j := m) (by omega)) ?_
      refine h_t (g m hm) ?_
      refine h_n (st2 := [_]) rfl ?_
      refine h_s rfl ?_
      exact h_ri rfl rfl ⟨rfl, PN0.px, F⟩
set_option maxRecDepth 100000 in
set_option maxHeartbeats 4000000 in
theorem x_noise_k (R : XW w s n st ks kp tp tn bo so nu) (I : SI s n) (f m c : Nat) (hf : f < n) (hm : m < 2 * n) (hc : c < 24) (L : Nat) (hL : noiN s n f (nI c) 16 m = L) : ab_Q X kX5_noise [.ref 0, .int (nI f), .int (nI m), .int (nI c)] w (fun v w1 => if L = 999 then XP w (-1000004) s n (bump st 3) ks kp tp tn bo so nu v w1 else XP w (nI L) s n st ks kp tp tn bo so nu v w1) := by
  have R0 := R
  obtain ⟨x0, XR, ⟨sd, nd, XD⟩, ⟨sk, nk, XK, hkp⟩, XPl, XT, XS, x45, xl⟩ := R
  have r0 := XR.1
  have p0 := XPl.1
  have d0 := XD.1
  have hn : n ≤ 8 := XR.2.2.2.2.2.2.2
  have RC := R0
  show ab_H X kX5_noise 0 [some (.ref 0), some (.int (nI f)), some (.int (nI m)), some (.int (nI c)), none] [] w _
  iterate 3 refine h_s rfl ?_
  refine h_cv rfl rfl rfl x0 rfl rfl (x_isVisit x0 XR (nI f) (nI c)) ?_
  refine h_t (y := 1) (by rw [inN_n (by omega) (by omega), inN_n (by omega) (by omega)]; rfl) ?_
  refine h_n (st2 := [_]) rfl ?_
  iterate 2 refine h_s rfl ?_
  refine h_gf rfl rfl rfl x0 rfl ?_
  refine h_s rfl ?_
  refine h_cv rfl rfl rfl r0 rfl rfl (x_hasRoom XR (nI m)) ?_
  refine h_t (y := 1) (by rw [inN_n (by omega) (by omega)]; rfl) ?_
  refine h_n (st2 := [_]) rfl ?_
  iterate 2 refine h_s rfl ?_
  refine h_gf rfl rfl rfl x0 rfl ?_
  refine h_s rfl ?_
  refine h_gf rfl rfl rfl x0 rfl ?_
  refine hq_v rfl rfl rfl p0 rfl rfl (x_draw XPl XR I (by omega)) (fun v1 w1 q1 => ?_)
  obtain ⟨rfl, PJ, f1⟩ := q1
  have G : ∀ i, (i < 34 ∨ 39 ≤ i) → w1[i]? = w[i]? := fun i hi => f1 i (by omega)
  have x0 := (G 0 (by decide)).trans x0
  have XR := XR.fr (w1 := w1) (fun i _ _ => G i (by omega))
  have r0 := XR.1
  have p0 := PJ.1
  refine h_n (st2 := []) rfl ?_
  refine h_s rfl ?_
  refine h_gf rfl rfl rfl x0 rfl ?_
  refine h_s rfl ?_
  refine h_gf rfl rfl rfl x0 rfl ?_
  refine h_s rfl ?_
  refine hq_v rfl rfl rfl p0 rfl rfl (x_listen PJ XR (by decide) I (nI c)) (fun v2 w2 q2 => ?_)
  obtain ⟨rfl, PJ, PW, f2⟩ := q2
  have G : ∀ i, (i < 34 ∨ 39 ≤ i) → w2[i]? = w[i]? := fun i hi => (f2 i (by omega)).trans (G i hi)
  have x0 := (f2 0 (by decide)).trans x0
  have XR := XR.fr (w1 := w2) (fun i _ _ => f2 i (by omega))
  have r0 := XR.1
  have p0 := PJ.1
  refine h_n (st2 := []) rfl ?_
  refine h_s rfl ?_
  refine h_gf rfl rfl rfl x0 rfl ?_
  iterate 2 refine h_s rfl ?_
  refine h_gf rfl rfl rfl x0 rfl ?_
  iterate 2 refine h_s rfl ?_
  refine h_k (y := 0) rfl rfl ?_
  refine h_k (y := 0) rfl rfl ?_
  refine h_cv rfl rfl rfl r0 rfl rfl (x_lett XR I (show f < 8 by omega) (nI c)) ?_
  refine h_n (st2 := [_, _, _]) rfl ?_
  refine hq_v rfl rfl rfl p0 rfl rfl (x_quietest (c := nI c) p0 PJ.2.1 PW PJ.2.2.2.1 PJ.2.2.2.2 I hn (f := f) (m := m) (by omega)) (fun v3 w3 q3 => ?_)
  obtain ⟨rfl, PX, f3⟩ := q3
  have G : ∀ i, (i < 34 ∨ 39 ≤ i) → w3[i]? = w[i]? := fun i hi => (f3 i (by omega)).trans (G i hi)
  have x0 := (f3 0 (by decide)).trans x0
  have RC := R0.plan PX G
  refine h_n (st2 := [_]) rfl ?_
  have hL2 : L = 999 ∨ L ≤ 160 := by
    rw [← hL]
    exact (inv_le (noi_inv I 16) (show m < 16 by omega)).imp id (fun q => q.2)
  rw [hL]
  iterate 2 refine h_s rfl ?_
  refine h1_ge rfl rfl (fun h73 => ?_) (fun h73 => ?_)
  · refine h_s rfl ?_
    have hne : ¬ L = 999 := fun q => by
      rw [q] at h73
      exact absurd h73 (by decide)
    have e : encI L = nI L := by unfold encI; rw [if_neg hne]
    rw [e]
    refine h_ri rfl rfl ?_
    rw [if_neg hne]
    exact ⟨rfl, RC, fun i hi => G i (by omega)⟩
  · refine h_s rfl ?_
    refine h_k (y := (-1000004)) rfl rfl ?_
    refine hq_v rfl rfl rfl x0 rfl rfl (x_found RC 3 (by omega) _ (by decide)) (fun v9 w9 q9 => ?_)
    obtain ⟨rfl, q2, q3⟩ := q9
    refine h_n (st2 := [_]) rfl ?_
    refine h_s rfl ?_
    have heq : L = 999 := by
      rcases hL2 with q | q
      · exact q
      · exfalso
        apply h73
        unfold encI
        rw [if_neg (by omega)]
        exact nI_pos' (by omega)
    refine h_ri rfl rfl ?_
    rw [if_pos heq]
    exact ⟨rfl, q2, fun i hi => (q3 i hi).trans (G i (by omega))⟩
end NQX
section NQM
variable {X : List Int32} {w w1 : ab_W} {s : List Int32} {n : Nat} {st ks : List Int32} {kp : Bool} {tp : List Int32} {tn : Nat} {bo so nu : List Int32}
theorem MW.n59 (R : MW w s n st ks kp tp tn bo so nu) {nz1 : List Int32} (h : w1[59]? = some (.inr nz1)) (hl : nz1.length = 16) (hf : ∀ i, i ≠ 59 → w1[i]? = w[i]?) : MW w1 s n st ks kp tp tn bo so nu := by
  obtain ⟨oth, nz, mv, fr, to, vl, wr, a54, a55, a56, a57, a58, a59, a60, a61, a62, a63, a64, l, h0, hn, ht⟩ := R
  exact ⟨oth, nz1, mv, fr, to, vl, wr, by rw [hf _ (by decide)]; exact a54, by rw [hf _ (by decide)]; exact a55, by rw [hf _ (by decide)]; exact a56, by rw [hf _ (by decide)]; exact a57, by rw [hf _ (by decide)]; exact a58, h, by rw [hf _ (by decide)]; exact a60, by rw [hf _ (by decide)]; exact a61, by rw [hf _ (by decide)]; exact a62, by rw [hf _ (by decide)]; exact a63, by rw [hf _ (by decide)]; exact a64, ⟨l.1, l.2.1, l.2.2.1, l.2.2.2.1, hl, l.2.2.2.2.2⟩, h0, hn, ht⟩
set_option maxRecDepth 100000 in
set_option maxHeartbeats 4000000 in
theorem m_findNoises (R : MW w s n st ks kp tp tn bo so nu) (I : SI s n) (f : Nat) (c : Int32) : ab_Q X kX6_findNoises [.ref 54, .int (bs (opB s n f c) 16), .int c] w (fun v w1 => v = none ∧ MW w1 s n st ks kp tp tn bo so nu ∧ (∃ nz, w1[59]? = some (.inr nz) ∧ nz.length = 16 ∧ ∀ q, q < 16 → nz.getD q 0 = nI ((noiN s n f c 16) q)) ∧ ∀ i, i ≠ 59 → w1[i]? = w[i]?) := by
  have M := R.ms
  have R0 := R
  have RC := R0
  obtain ⟨oth, nz, mv, fr, to, vl, wr, a54, a55, a56, a57, a58, a59, a60, a61, a62, a63, a64, l, h0, hn, ht⟩ := R
  show ab_H X kX6_findNoises 0 [some (.ref 54), some (.int (bs (opB s n f c) 16)), some (.int c), none, none, none, none, none] [] w _
  have a54_ := a54
  have a55_ := a55
  have hwk : ∀ r, wkN s n c r ≤ 10 := fun r => (wak_N I c r).2
  refine h_k (y := 0) rfl rfl ?_
  refine h_s rfl ?_
  refine h_loop0 16 (fun i ls v => (∃ y4 y5 y6 y7, ls = [some (.ref 54), some (.int (bs (opB s n f c) 16)), some (.int c), some (.int (nI i)), y4, y5, y6, y7]) ∧ (∀ j, j ≠ 59 → v[j]? = w[j]?) ∧ ∃ nz, v[59]? = some (.inr nz) ∧ nz.length = 16 ∧ ∀ q, q < i → nz.getD q 0 = nI (nz0 s n f c q)) ⟨⟨none, none, none, none, rfl⟩, fun _ _ => rfl, nz, a59, l.2.2.2.2.1, fun q hq => absurd hq (by omega)⟩ (fun i ls v hi hJ ih => ?_) (fun ls v hJ => ?_)
  · obtain ⟨⟨y4, y5, y6, y7, rfl⟩, F, nz, a59, nl, g⟩ := hJ
    have a54 := (F 54 (by decide)).trans a54_
    have M := (R0.n59 a59 nl F).ms
    refine h_s rfl ?_
    refine h_k (y := 16) rfl rfl ?_
    refine hN_ge (b := 16) rfl rfl rfl rfl (by omega) (by omega) (fun h5 => absurd h5 (by omega)) (fun h5 => ?_)
    refine h_s rfl ?_
    refine h_gf rfl rfl rfl a54 rfl ?_
    iterate 2 refine h_s rfl ?_
    refine h_cv rfl rfl rfl a54 rfl rfl (m_grounds M) ?_
    refine h_n (st2 := [_, _, _]) rfl ?_
    refine h_s rfl ?_
    refine h_s rfl ?_
    refine h_t (bs_and (by decide)) ?_
    refine h_s rfl ?_
    refine h_c rfl (m_has i (by omega)) ?_
    refine h_t (y := z01 (gB n i && opB s n f c i)) (by rw [bt_bs _ _ _ (by decide) (by omega), decide_eq_true hi, Bool.true_and]) ?_
    refine h_n (st2 := [_, _, _]) rfl ?_
    refine hz_eq rfl rfl (fun h23 => ?_) (fun h23 => ?_)
    · refine h_k (y := 999) rfl rfl ?_
      refine h_is i rfl a59 (by omega) rfl (by omega) (fun w2 e2 f2 => ?_)
      refine h_ii rfl rfl rfl ?_
      refine h_s rfl ?_
      refine ih _ _ ⟨⟨_, _, _, _, rfl⟩, fun j hj => (f2 j hj).trans (F j hj), _, e2, by rw [List.length_set]; exact nl, fun q hq => ?_⟩
      rw [gD_set _ _ _ _ (by omega)]
      by_cases e : q = i
      · rw [if_pos e, e]
        unfold nz0
        rw [if_neg (by rw [h23]; decide)]
        rfl
      · rw [if_neg e]
        exact g q (by omega)
    · refine h_k (y := 0) rfl rfl ?_
      refine h_s rfl ?_
      refine h_is i rfl a59 (by omega) rfl (by omega) (fun w2 e2 f2 => ?_)
      refine h_ii rfl rfl rfl ?_
      refine h_s rfl ?_
      refine ih _ _ ⟨⟨_, _, _, _, rfl⟩, fun j hj => (f2 j hj).trans (F j hj), _, e2, by rw [List.length_set]; exact nl, fun q hq => ?_⟩
      rw [gD_set _ _ _ _ (by omega)]
      by_cases e : q = i
      · rw [if_pos e, e]
        unfold nz0
        rw [if_pos h23]
        rfl
      · rw [if_neg e]
        exact g q (by omega)
  · obtain ⟨⟨y4, y5, y6, y7, rfl⟩, F, nz, a59, nl, g⟩ := hJ
    have a54 := (F 54 (by decide)).trans a54_
    refine h_s rfl ?_
    refine h_k (y := 16) rfl rfl ?_
    refine hN_ge (b := 16) rfl rfl rfl rfl (by omega) (by omega) (fun h5 => ?_) (fun h5 => absurd (by omega) h5)
    refine h_k (y := 0) rfl rfl ?_
    refine h_s rfl ?_
    refine h_loop0 16 (fun k ls v => (∃ y4 y5 y6 y7, ls = [some (.ref 54), some (.int (bs (opB s n f c) 16)), some (.int c), some (.int (nI k)), y4, y5, y6, y7]) ∧ (∀ j, j ≠ 59 → v[j]? = w[j]?) ∧ ∃ nz, v[59]? = some (.inr nz) ∧ nz.length = 16 ∧ ∀ q, q < 16 → nz.getD q 0 = nI ((noiN s n f c k) q)) ⟨⟨_, _, _, _, rfl⟩, F, nz, a59, nl, g⟩ (fun k ls v hk hJ ih => ?_) (fun ls v hJ => ?_)
    · obtain ⟨⟨y4, y5, y6, y7, rfl⟩, F, nz, a59, nl, g⟩ := hJ
      have a54 := (F 54 (by decide)).trans a54_
      refine h_s rfl ?_
      refine h_k (y := 16) rfl rfl ?_
      refine hN_ge (b := 16) rfl rfl rfl rfl (by omega) (by omega) (fun h45 => absurd h45 (by omega)) (fun h45 => ?_)
      refine h_k (y := 0) rfl rfl ?_
      refine h_s rfl ?_
      refine h_loop0 (2 * n) (fun r ls v2 => (∃ y5 y6 y7, ls = [some (.ref 54), some (.int (bs (opB s n f c) 16)), some (.int c), some (.int (nI k)), some (.int (nI r)), y5, y6, y7]) ∧ (∀ j, j ≠ 59 → v2[j]? = w[j]?) ∧ ∃ nz, v2[59]? = some (.inr nz) ∧ nz.length = 16 ∧ ∀ q, q < 16 → nz.getD q 0 = nI ((rlxN (adjB s n) (opB s n f c) (wkN s n c) (noiN s n f c k) r) q)) ⟨⟨_, _, _, rfl⟩, F, nz, a59, nl, g⟩ (fun r ls v2 hr hJ ih2 => ?_) (fun ls v2 hJ => ?_)
      · obtain ⟨⟨y5, y6, y7, rfl⟩, F, nz, a59, nl, g⟩ := hJ
        have a54 := (F 54 (by decide)).trans a54_
        have M := (R0.n59 a59 nl F).ms
        have a55 := (F 55 (by decide)).trans a55_
        have hi := inv_rlxN (adj := adjB s n) hwk (noi_inv (f := f) (c := c) I k) (r := r) (by omega)
        obtain ⟨x, hx⟩ : ∃ x, (rlxN (adjB s n) (opB s n f c) (wkN s n c) (noiN s n f c k) r) = x := ⟨_, rfl⟩
        have hxs : rlxN (adjB s n) (opB s n f c) (wkN s n c) (noiN s n f c k) (r + 1) = rlx (adjB s n) (opB s n f c) (wkN s n c) x r := by rw [rlxN, hx]
        rw [hx] at g hi
        have hxr := inv_le hi (show r < 16 by omega)
        have hwr := hwk r
        have hoT : ∀ q, q < 16 → (if ((fun q => opB s n f c r && (adjB s n r q && opB s n f c q)) q) = true ∧ x r + wkN s n c r < x q then x r + wkN s n c r else x q) = rlx (adjB s n) (opB s n f c) (wkN s n c) x r q := by
          intro q hq
          cases ho : opB s n f c r with
          | true =>
            have e : (true && (adjB s n r q && opB s n f c q)) = (adjB s n r q && opB s n f c q) := Bool.true_and _
            by_cases hcd : (adjB s n r q && opB s n f c q) = true ∧ x r + wkN s n c r < x q
            · rw [if_pos ⟨e.trans hcd.1, hcd.2⟩]
              exact (if_pos hcd).symm
            · rw [if_neg (fun t => hcd ⟨e.symm.trans t.1, t.2⟩)]
              exact (if_neg hcd).symm
          | false =>
            have hx9 : x r = 999 := hxr.resolve_right (fun t => by rw [ho] at t; exact absurd t.1 (by decide))
            rw [rlx_no hi hx9 hq, if_neg (fun t => absurd t.1 (by show ¬ ((false && _) = true); rw [Bool.false_and]; decide))]
        have K : ∀ (x6 : Int32) (y7 : Option Value), x6 = bs (fun q => opB s n f c r && (adjB s n r q && opB s n f c q)) 16 → ab_H X kX6_findNoises 118 [some (.ref 54), some (.int (bs (opB s n f c) 16)), some (.int c), some (.int (nI k)), some (.int (nI r)), some (.int (nI (x r + wkN s n c r))), some (.int x6), y7] [] v2 (fun v w1 => v = none ∧ MW w1 s n st ks kp tp tn bo so nu ∧ (∃ nz, w1[59]? = some (.inr nz) ∧ nz.length = 16 ∧ ∀ q, q < 16 → nz.getD q 0 = nI ((noiN s n f c 16) q)) ∧ ∀ i, i ≠ 59 → w1[i]? = w[i]?) := by
          rintro _ y7 rfl
          refine h_k (y := 0) rfl rfl ?_
          refine h_s rfl ?_
          refine h_loop0 16 (fun j ls v3 => ls = [some (.ref 54), some (.int (bs (opB s n f c) 16)), some (.int c), some (.int (nI k)), some (.int (nI r)), some (.int (nI (x r + wkN s n c r))), some (.int (bs (fun q => opB s n f c r && (adjB s n r q && opB s n f c q)) 16)), some (.int (nI j))] ∧ (∀ j, j ≠ 59 → v3[j]? = w[j]?) ∧ ∃ nz, v3[59]? = some (.inr nz) ∧ nz.length = 16 ∧ ∀ p, p < 16 → nz.getD p 0 = nI (if p < j then rlx (adjB s n) (opB s n f c) (wkN s n c) x r p else x p)) ⟨rfl, F, nz, a59, nl, fun p hp => by rw [if_neg (by omega)]; exact g p hp⟩ (fun j ls v3 hj hJ ih3 => ?_) (fun ls v3 hJ => ?_)
          · obtain ⟨rfl, F, nz, a59, nl, g⟩ := hJ
            have a54 := (F 54 (by decide)).trans a54_
            have gj := g j hj
            rw [if_neg (show ¬ j < j by omega)] at gj
            have hxj := inv_le hi hj
            have hT := hoT j hj
            refine h_s rfl ?_
            refine h_k (y := 16) rfl rfl ?_
            refine hN_ge (b := 16) rfl rfl rfl rfl (by omega) (by omega) (fun h125 => absurd h125 (by omega)) (fun h125 => ?_)
            refine h_s rfl ?_
            refine h_gf rfl rfl rfl a54 rfl ?_
            iterate 3 refine h_s rfl ?_
            refine h_c rfl (m_has j (by omega)) ?_
            refine h_t (y := z01 ((fun q => opB s n f c r && (adjB s n r q && opB s n f c q)) j)) (by rw [bt_bs _ _ _ (by decide) (by omega), decide_eq_true hj, Bool.true_and]) ?_
            refine h_n (st2 := [_, _, _]) rfl ?_
            refine hz_eq rfl rfl (fun h141 => ?_) (fun h141 => ?_)
            · refine h_s rfl ?_
              refine h_gf rfl rfl rfl a54 rfl ?_
              refine h_s rfl ?_
              refine h_ia j rfl a59 (by omega) rfl (by omega) ?_
              refine h_t gj ?_
              refine h_is j rfl a59 (by omega) rfl (by omega) (fun w2 e2 f2 => ?_)
              refine h_ii rfl rfl rfl ?_
              refine h_s rfl ?_
              rw [if_neg (fun t => by rw [h141] at t; exact absurd t.1 (by decide))] at hT
              refine ih3 _ _ ⟨rfl, fun y hy => (f2 y hy).trans (F y hy), _, e2, by rw [List.length_set]; exact nl, fun p hp => ?_⟩
              rw [gD_set _ _ _ _ (by omega)]
              by_cases e : p = j
              · rw [if_pos e, e, if_pos (by omega), ← hT]
              · rw [if_neg e, g p hp]
                by_cases e3 : p < j
                · rw [if_pos e3, if_pos (by omega)]
                · rw [if_neg e3, if_neg (by omega)]
            · iterate 2 refine h_s rfl ?_
              refine h_gf rfl rfl rfl a54 rfl ?_
              refine h_s rfl ?_
              refine h_ia j rfl a59 (by omega) rfl (by omega) ?_
              refine h_t gj ?_
              refine hN_ge rfl rfl rfl rfl (by omega) (by omega) (fun h153 => ?_) (fun h153 => ?_)
              · refine h_s rfl ?_
                refine h_gf rfl rfl rfl a54 rfl ?_
                refine h_s rfl ?_
                refine h_ia j rfl a59 (by omega) rfl (by omega) ?_
                refine h_t gj ?_
                refine h_is j rfl a59 (by omega) rfl (by omega) (fun w2 e2 f2 => ?_)
                refine h_ii rfl rfl rfl ?_
                refine h_s rfl ?_
                rw [if_neg (fun t => by omega)] at hT
                refine ih3 _ _ ⟨rfl, fun y hy => (f2 y hy).trans (F y hy), _, e2, by rw [List.length_set]; exact nl, fun p hp => ?_⟩
                rw [gD_set _ _ _ _ (by omega)]
                by_cases e : p = j
                · rw [if_pos e, e, if_pos (by omega), ← hT]
                · rw [if_neg e, g p hp]
                  by_cases e3 : p < j
                  · rw [if_pos e3, if_pos (by omega)]
                  · rw [if_neg e3, if_neg (by omega)]
              · iterate 2 refine h_s rfl ?_
                refine h_is j rfl a59 (by omega) rfl (by omega) (fun w2 e2 f2 => ?_)
                refine h_ii rfl rfl rfl ?_
                refine h_s rfl ?_
                rw [if_pos ⟨h141, by omega⟩] at hT
                refine ih3 _ _ ⟨rfl, fun y hy => (f2 y hy).trans (F y hy), _, e2, by rw [List.length_set]; exact nl, fun p hp => ?_⟩
                rw [gD_set _ _ _ _ (by omega)]
                by_cases e : p = j
                · rw [if_pos e, e, if_pos (by omega), ← hT]
                · rw [if_neg e, g p hp]
                  by_cases e3 : p < j
                  · rw [if_pos e3, if_pos (by omega)]
                  · rw [if_neg e3, if_neg (by omega)]
          · obtain ⟨rfl, F, nz, a59, nl, g⟩ := hJ
            refine h_s rfl ?_
            refine h_k (y := 16) rfl rfl ?_
            refine hN_ge (b := 16) rfl rfl rfl rfl (by omega) (by omega) (fun h125 => ?_) (fun h125 => absurd (by omega) h125)
            refine h_ii rfl rfl rfl ?_
            refine h_s rfl ?_
            exact ih2 _ _ ⟨⟨_, _, _, rfl⟩, F, nz, a59, nl, fun q hq => by rw [g q hq, if_pos hq, hxs]⟩
        have hev : r % 2 = 1 → wakeV s (r / 2) c = nI (wkN s n c r) := fun e => by
          rw [← (wak_N I c r).1]
          unfold wakR
          rw [if_pos ⟨by omega, e⟩]
        have hod : ¬ r % 2 = 1 → (0 : Int32) = nI (wkN s n c r) := fun e => by
          rw [← (wak_N I c r).1]
          unfold wakR
          rw [if_neg (fun t => e t.2)]
        refine h_s rfl ?_
        refine h_k (y := 2) rfl rfl ?_
        refine h_s rfl ?_
        refine h_gf rfl rfl rfl a54 rfl ?_
        refine h_k (y := 0) rfl rfl ?_
        refine h_ia 0 rfl a55 (by omega) rfl (by omega) ?_
        refine h_t h0 ?_
        refine h_Nmul (a := 2) rfl rfl rfl ?_
        refine hN_ge rfl rfl rfl rfl (by omega) (by omega) (fun h61 => absurd h61 (by omega)) (fun h61 => ?_)
        refine h_s rfl ?_
        refine h_gf rfl rfl rfl a54 rfl ?_
        refine h_s rfl ?_
        refine h_ia r rfl a59 (by omega) rfl (by omega) ?_
        refine h_t (g r (by omega)) ?_
        refine h_s rfl ?_
        refine h_k (y := 2) rfl rfl ?_
        refine h_Nrem (b := 2) rfl rfl rfl (by omega) (by omega) (by omega) ?_
        refine h_k (y := 1) rfl rfl ?_
        refine hN_ne (b := 1) rfl rfl rfl rfl (by omega) (by omega) (fun h76 => ?_) (fun h76 => ?_)
        · refine h_k (y := nI (wkN s n c r)) rfl (hod h76) ?_
          refine h_Nadd rfl rfl rfl ?_
          iterate 3 refine h_s rfl ?_
          refine h_c rfl (m_has r (by omega)) ?_
          refine h_t (y := z01 (opB s n f c r)) (by rw [bt_bs _ _ _ (by decide) (by omega), decide_eq_true (by omega), Bool.true_and]) ?_
          refine h_n (st2 := [_]) rfl ?_
          refine hz_eq rfl rfl (fun h101 => ?_) (fun h101 => ?_)
          · refine h_k (y := 0) rfl rfl ?_
            refine h_s rfl ?_
            exact K _ _ (((bs_zero (by decide)).mpr (fun q _ => by show (opB s n f c r && _) = false; rw [h101]; rfl)).symm)
          · iterate 2 refine h_s rfl ?_
            refine h_cv rfl rfl rfl a54 rfl rfl (m_joinedTo M I r hr) ?_
            refine h_n (st2 := [_]) rfl ?_
            refine h_s rfl ?_
            refine h_s rfl ?_
            refine h_t (bs_and (by decide)) ?_
            iterate 2 refine h_s rfl ?_
            exact K _ _ (bs_cong (fun q _ => by show _ = (opB s n f c r && _); rw [h101]; rfl))
        · iterate 2 refine h_s rfl ?_
          refine h_k (y := 2) rfl rfl ?_
          refine h_Ndiv (b := 2) rfl rfl rfl (by omega) (by omega) (by omega) ?_
          refine h_s rfl ?_
          refine h_cv rfl rfl rfl a54 rfl rfl (m_wakes M (r / 2) (by omega) c) ?_
          refine h_t (hev h76) ?_
          refine h_n (st2 := [_, _]) rfl ?_
          refine h_s rfl ?_
          refine h_Nadd rfl rfl rfl ?_
          iterate 3 refine h_s rfl ?_
          refine h_c rfl (m_has r (by omega)) ?_
          refine h_t (y := z01 (opB s n f c r)) (by rw [bt_bs _ _ _ (by decide) (by omega), decide_eq_true (by omega), Bool.true_and]) ?_
          refine h_n (st2 := [_]) rfl ?_
          refine hz_eq rfl rfl (fun h101 => ?_) (fun h101 => ?_)
          · refine h_k (y := 0) rfl rfl ?_
            refine h_s rfl ?_
            exact K _ _ (((bs_zero (by decide)).mpr (fun q _ => by show (opB s n f c r && _) = false; rw [h101]; rfl)).symm)
          · iterate 2 refine h_s rfl ?_
            refine h_cv rfl rfl rfl a54 rfl rfl (m_joinedTo M I r hr) ?_
            refine h_n (st2 := [_]) rfl ?_
            refine h_s rfl ?_
            refine h_s rfl ?_
            refine h_t (bs_and (by decide)) ?_
            iterate 2 refine h_s rfl ?_
            exact K _ _ (bs_cong (fun q _ => by show _ = (opB s n f c r && _); rw [h101]; rfl))
      · obtain ⟨⟨y5, y6, y7, rfl⟩, F, nz, a59, nl, g⟩ := hJ
        have a54 := (F 54 (by decide)).trans a54_
        have a55 := (F 55 (by decide)).trans a55_
        have hup := rlxN_up (adj := adjB s n) hwk (noi_inv (f := f) (c := c) I k) (m := 2 * n) (fun r hr => by unfold opB; rw [decide_eq_false (by omega), Bool.false_and]) (16 - 2 * n) (by omega)
        rw [show 2 * n + (16 - 2 * n) = 16 by omega] at hup
        refine h_s rfl ?_
        refine h_k (y := 2) rfl rfl ?_
        refine h_s rfl ?_
        refine h_gf rfl rfl rfl a54 rfl ?_
        refine h_k (y := 0) rfl rfl ?_
        refine h_ia 0 rfl a55 (by omega) rfl (by omega) ?_
        refine h_t h0 ?_
        refine h_Nmul (a := 2) rfl rfl rfl ?_
        refine hN_ge rfl rfl rfl rfl (by omega) (by omega) (fun h61 => ?_) (fun h61 => absurd (by omega) h61)
        refine h_ii rfl rfl rfl ?_
        refine h_s rfl ?_
        exact ih _ _ ⟨⟨_, _, _, _, rfl⟩, F, nz, a59, nl, fun q hq => by rw [g q hq, ← hup q hq]; rfl⟩
    · obtain ⟨⟨y4, y5, y6, y7, rfl⟩, F, nz, a59, nl, g⟩ := hJ
      refine h_s rfl ?_
      refine h_k (y := 16) rfl rfl ?_
      refine hN_ge (b := 16) rfl rfl rfl rfl (by omega) (by omega) (fun h45 => ?_) (fun h45 => absurd (by omega) h45)
      exact h_r rfl ⟨rfl, R0.n59 a59 nl F, ⟨nz, a59, nl, g⟩, F⟩
set_option maxRecDepth 100000 in
set_option maxHeartbeats 4000000 in
theorem m_noise_k (R : MW w s n st ks kp tp tn bo so nu) (I : SI s n) (f m c : Nat) (hf : f < n) (hm : m < 2 * n) (hc : c < 24) (L : Nat) (hL : noiN s n f (nI c) 16 m = L) : ab_Q X kX6_noise [.ref 54, .int (nI f), .int (nI m), .int (nI c)] w (fun v w1 => if L = 999 then MP w (-1000004) s n (bump st 3) ks kp tp tn bo so nu v w1 else MP w (nI L) s n st ks kp tp tn bo so nu v w1) := by
  have M := R.ms
  have R0 := R
  have RC := R0
  obtain ⟨oth, nz, mv, fr, to, vl, wr, a54, a55, a56, a57, a58, a59, a60, a61, a62, a63, a64, l, h0, hn, ht⟩ := R
  show ab_H X kX6_noise 0 [some (.ref 54), some (.int (nI f)), some (.int (nI m)), some (.int (nI c))] [] w _
  iterate 3 refine h_s rfl ?_
  refine h_cv rfl rfl rfl a54 rfl rfl (m_isAsk1 M ⟨f, by omega, rfl⟩ ⟨c, by omega, rfl⟩) ?_
  refine h_n (st2 := [_]) rfl ?_
  iterate 3 refine h_s rfl ?_
  refine h_cv rfl rfl rfl a54 rfl rfl (m_isRoom1 M ⟨m, by omega, rfl⟩) ?_
  refine h_n (st2 := [_]) rfl ?_
  iterate 5 refine h_s rfl ?_
  refine h_cv rfl rfl rfl a54 rfl rfl (m_openRooms M I f (by omega) (nI c)) ?_
  refine h_n (st2 := [_, _]) rfl ?_
  refine h_s rfl ?_
  refine hq_v rfl rfl rfl a54 rfl rfl (m_findNoises R0 I f (nI c)) (fun v1 w1 q1 => ?_)
  obtain ⟨rfl, R1, ⟨nz, a59, nl, g⟩, F1⟩ := q1
  have a54 := (F1 54 (by decide)).trans a54
  have RC := R1
  have hL2 : L = 999 ∨ L ≤ 160 := by
    rw [← hL]
    exact (inv_le (noi_inv I 16) (show m < 16 by omega)).imp id (fun q => q.2)
  refine h_n (st2 := []) rfl ?_
  refine h_s rfl ?_
  refine h_gf rfl rfl rfl a54 rfl ?_
  refine h_s rfl ?_
  refine h_ia m rfl a59 (by omega) rfl (by omega) ?_
  refine h_t ((g m (by omega)).trans (by rw [hL])) ?_
  refine h_k (y := 998) rfl rfl ?_
  refine hN_le (b := 998) rfl rfl rfl rfl (by omega) (by omega) (fun h44 => ?_) (fun h44 => ?_)
  · refine h_s rfl ?_
    refine h_gf rfl rfl rfl a54 rfl ?_
    refine h_s rfl ?_
    refine h_ia m rfl a59 (by omega) rfl (by omega) ?_
    refine h_t ((g m (by omega)).trans (by rw [hL])) ?_
    refine h_ri rfl rfl ?_
    rw [if_neg (by omega)]
    exact ⟨rfl, R1, fun i hi => F1 i (by omega)⟩
  · refine h_s rfl ?_
    refine h_k (y := (-1000004)) rfl rfl ?_
    refine hq_v rfl rfl rfl a54 rfl rfl (m_finds RC 3 (by omega) _ (by decide)) (fun v9 w9 q9 => ?_)
    obtain ⟨rfl, q2, q3⟩ := q9
    refine h_n (st2 := [_]) rfl ?_
    refine h_s rfl ?_
    refine h_ri rfl rfl ?_
    rw [if_pos (by omega)]
    exact ⟨rfl, q2, fun i hi => (q3 i hi).trans (F1 i (by omega))⟩
end NQM
