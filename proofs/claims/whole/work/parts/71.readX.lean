/-! TEXT: the class reads it all -/
section RI
variable {X : List Int32} {w : ab_W} {tp : List Int32} {tn n : Nat} {s : List Int32}
theorem TapeX.tok (T : TapeX w tp tn) : ∃ tk hr A B C, TokW w tp tn tk hr A B C := by
  obtain ⟨⟨tk, hr, t0⟩, t1, ⟨tl, hn⟩, ⟨A, t2, al⟩, ⟨B, t3, bl⟩, ⟨C, t4, cl⟩⟩ := T
  exact ⟨tk, hr, A, B, C, t0, t1, t2, t3, t4, tl, hn, al, bl, cl⟩
theorem TokW.tape {tk hr : Int32} {A B C : List Int32} (T : TokW w tp tn tk hr A B C) : TapeX w tp tn := ⟨⟨tk, hr, T.1⟩, T.2.1, ⟨T.2.2.2.2.2.1, T.2.2.2.2.2.2.1⟩, ⟨A, T.2.2.1, T.2.2.2.2.2.2.2.1⟩, ⟨B, T.2.2.2.1, T.2.2.2.2.2.2.2.2.1⟩, ⟨C, T.2.2.2.2.1, T.2.2.2.2.2.2.2.2.2⟩⟩
/-- what a text tells -/
def rdAns (tp : List Int32) (tn : Nat) (p : PR) : Int32 := if p.ok = true then nI p.i else -1 - nI (tP tp tn p.i)
set_option maxRecDepth 100000 in
set_option maxHeartbeats 4000000 in
theorem x_readInto (T : TapeX w tp tn) (XD : RowW w 12 s n) : ab_Q X kX4_readInto [.ref 39, .ref 12] w (fun v w1 => v = some (.int (rdAns tp tn (rdAll tp tn 121 1 0 s n))) ∧ TapeX w1 tp tn ∧ RowW w1 12 (rdAll tp tn 121 1 0 s n).s (rdAll tp tn 121 1 0 s n).n ∧ (rdAll tp tn 121 1 0 s n).i ≤ 121 ∧ ∀ j, (j < 12 ∨ (23 ≤ j ∧ j < 39) ∨ 44 ≤ j) → w1[j]? = w[j]?) := by
  obtain ⟨tk, hr, A, B, C, T⟩ := T.tok
  show ab_H X kX4_readInto 0 [some (.ref 39), some (.ref 12), none, none] [] w _
  refine h_s rfl ?_
  refine hq_v rfl rfl rfl T.1 rfl rfl (x_findTokens T) (fun v1 w1 q1 => ?_)
  obtain ⟨rfl, m, hm, hPm, hLm, ⟨A, B, C, T, D1⟩, g1⟩ := q1
  have D : TkD tp tn m A B C := ⟨D1, hm, hPm, hLm⟩
  have XD := XD.fr (w1 := w1) (fun j _ _ => g1 j (by omega))
  have F : ∀ j, (j < 12 ∨ (23 ≤ j ∧ j < 39) ∨ 44 ≤ j) → w1[j]? = w[j]? := fun j hj => g1 j (by omega)
  obtain ⟨tk, htk⟩ : ∃ tk, nI (m + 1) = tk := ⟨_, rfl⟩
  rw [htk] at T
  have t0 := T.1
  have t1 := T.2.1
  have t2 := T.2.2.1
  have t3 := T.2.2.2.1
  have t4 := T.2.2.2.2.1
  have tl := T.2.2.2.2.2.1
  have al := T.2.2.2.2.2.2.2.1
  have bl := T.2.2.2.2.2.2.2.2.1
  have cl := T.2.2.2.2.2.2.2.2.2
  refine h_n (st2 := []) rfl ?_
  refine h_s rfl ?_
  refine h_k (y := 0) rfl rfl ?_
  refine h_pf rfl rfl t0 rfl (fun w5 e5 f5 => ?_)
  have T := T.hr' e5 f5
  have XD := XD.fr (w1 := w5) (fun j _ _ => f5 j (by omega))
  have F := fun j hj => (f5 j (by omega)).trans (F j hj)
  have t0 := T.1
  have t1 := T.2.1
  have t2 := T.2.2.1
  have t3 := T.2.2.2.1
  have t4 := T.2.2.2.2.1
  have tl := T.2.2.2.2.2.1
  have al := T.2.2.2.2.2.2.2.1
  have bl := T.2.2.2.2.2.2.2.2.1
  have cl := T.2.2.2.2.2.2.2.2.2
  refine h_k (y := 1) rfl rfl ?_
  refine h_s rfl ?_
  refine h_loop0 120 (fun k ls v => ∃ i s2 n2 x3, ls = [some (.ref 39), some (.ref 12), some (.int (nI (k + 1))), x3] ∧ 2 * k ≤ i ∧ i ≤ m ∧ TokW v tp tn tk (nI i) A B C ∧ RowW v 12 s2 n2 ∧ (∀ q, (q < 12 ∨ (23 ≤ q ∧ q < 39) ∨ 44 ≤ q) → v[q]? = w[q]?) ∧ rdAll tp tn 121 1 0 s n = rdAll tp tn (121 - k) (k + 1) i s2 n2) ⟨_, _, _, _, rfl, Nat.zero_le _, Nat.zero_le _, T, XD, F, rfl⟩ (fun k ls v hk hJ ih => ?_) (fun ls v hJ => ?_)
  · obtain ⟨i, s2, n2, x3, rfl, hki, hi, T, XD, F, hR⟩ := hJ
    have t0 := T.1
    have t1 := T.2.1
    have t2 := T.2.2.1
    have t3 := T.2.2.2.1
    have t4 := T.2.2.2.2.1
    have tl := T.2.2.2.2.2.1
    have al := T.2.2.2.2.2.2.2.1
    have bl := T.2.2.2.2.2.2.2.2.1
    have cl := T.2.2.2.2.2.2.2.2.2
    refine h_s rfl ?_
    refine h_k (y := 120) rfl rfl ?_
    refine hN_gt (b := 120) rfl rfl rfl rfl (by omega) (by omega) (fun h14 => absurd h14 (by omega)) (fun h14 => ?_)
    iterate 2 refine h_s rfl ?_
    obtain ⟨p, hp⟩ : ∃ p, rdItem tp tn i s2 n2 = p := ⟨_, rfl⟩
    refine hq_v rfl rfl rfl t0 rfl rfl (x_readItem T D hi XD) (fun v3 w3 q3 => ?_)
    rw [hp] at q3
    obtain ⟨rfl, T, XD, hl3, g3⟩ := q3
    have F := fun j hj => (g3 j hj).trans (F j hj)
    have hpi : p.ok = true → i + 1 ≤ p.i := fun q => by rw [← hp] at q ⊢; exact rdItem_i q
    obtain ⟨d1, -, d3⟩ := D.1 p.i (by omega)
    have hle := ts_le (tp := tp) (tn := tn) (a := tP tp tn p.i)
    obtain ⟨V, hV⟩ : ∃ V, tsN tp tn (tP tp tn p.i) = V := ⟨_, rfl⟩
    rw [hV] at d1 hle
    have t0 := T.1
    have t1 := T.2.1
    have t2 := T.2.2.1
    have t3 := T.2.2.2.1
    have t4 := T.2.2.2.2.1
    have tl := T.2.2.2.2.2.1
    have al := T.2.2.2.2.2.2.2.1
    have bl := T.2.2.2.2.2.2.2.2.1
    have cl := T.2.2.2.2.2.2.2.2.2
    refine h_n (st2 := [_]) rfl ?_
    refine hz_ne rfl rfl (fun h22 => ?_) (fun h22 => ?_)
    · refine h_s rfl ?_
      refine h_gf rfl rfl rfl t0 rfl ?_
      refine h_s rfl ?_
      refine h_gf rfl rfl rfl t0 rfl ?_
      refine h_c rfl (x_cell t2 (by omega) (j := p.i) (by omega)) ?_
      refine h_t d1 ?_
      refine h_n (st2 := [_]) rfl ?_
      iterate 2 refine h_s rfl ?_
      refine hM_ne rfl rfl rfl rfl (by omega) (fun h52 => ?_) (fun h52 => ?_)
      · refine h_s rfl ?_
        refine h_k (y := 3) rfl rfl ?_
        refine hN_eq (b := 3) rfl rfl rfl rfl (by omega) (by omega) (fun h59 => ?_) (fun h59 => ?_)
        · iterate 2 refine h_s rfl ?_
          refine h_gf rfl rfl rfl t0 rfl ?_
          refine h_k (y := 1) rfl rfl ?_
          refine h_Nadd (b := 1) rfl rfl rfl ?_
          refine h_pf rfl rfl t0 rfl (fun w5 e5 f5 => ?_)
          have T := T.hr' e5 f5
          have XD := XD.fr (w1 := w5) (fun j _ _ => f5 j (by omega))
          have F := fun j hj => (f5 j (by omega)).trans (F j hj)
          have t0 := T.1
          have t1 := T.2.1
          have t2 := T.2.2.1
          have t3 := T.2.2.2.1
          have t4 := T.2.2.2.2.1
          have tl := T.2.2.2.2.2.1
          have al := T.2.2.2.2.2.2.2.1
          have bl := T.2.2.2.2.2.2.2.2.1
          have cl := T.2.2.2.2.2.2.2.2.2
          refine h_ii rfl rfl rfl ?_
          refine h_s rfl ?_
          have hpi := hpi h22
          have hlt : p.i + 1 ≤ m := D.lt hl3 (by rw [hV]; exact h52)
          refine ih _ _ ⟨_, _, _, _, rfl, by omega, hlt, T, XD, F, ?_⟩
          obtain ⟨g, hg⟩ : ∃ g, 121 - k = g + 1 := ⟨120 - k, by omega⟩
          rw [hR, hg, rdAll, hp, if_pos h22, if_neg (fun q => h52 (hV.symm.trans q)), if_pos (hV.trans h59), show 121 - (k + 1) = g by omega]
        · refine h_k (y := (-1)) rfl rfl ?_
          refine h_s rfl ?_
          refine h_gf rfl rfl rfl t0 rfl ?_
          refine h_s rfl ?_
          refine h_gf rfl rfl rfl t0 rfl ?_
          refine h_c rfl (x_cell t4 (by omega) (j := p.i) (by omega)) ?_
          refine h_t d3 ?_
          refine h_n (st2 := [_, _]) rfl ?_
          refine h_s rfl ?_
          obtain ⟨g, hg⟩ : ∃ g, 121 - k = g + 1 := ⟨120 - k, by omega⟩
          rw [hg] at hR
          rw [show rdAll tp tn 121 1 0 s n = ⟨false, p.i, p.s, p.n⟩ from by rw [hR, rdAll, hp, if_pos h22, if_neg (fun q => h52 (hV.symm.trans q)), if_neg (fun q => h59 (hV.symm.trans q))]]
          exact h_ri rfl rfl ⟨rfl, T.tape, XD, by show p.i ≤ 121; omega, F⟩
      · refine h_s rfl ?_
        obtain ⟨g, hg⟩ : ∃ g, 121 - k = g + 1 := ⟨120 - k, by omega⟩
        rw [hg] at hR
        rw [show rdAll tp tn 121 1 0 s n = ⟨true, k + 1, p.s, p.n⟩ from by rw [hR, rdAll, hp, if_pos h22, if_pos (hV.trans h52)]]
        exact h_ri rfl rfl ⟨rfl, T.tape, XD, by show k + 1 ≤ 121; omega, F⟩
    · refine h_k (y := (-1)) rfl rfl ?_
      refine h_s rfl ?_
      refine h_gf rfl rfl rfl t0 rfl ?_
      refine h_s rfl ?_
      refine h_gf rfl rfl rfl t0 rfl ?_
      refine h_c rfl (x_cell t4 (by omega) (j := p.i) (by omega)) ?_
      refine h_t d3 ?_
      refine h_n (st2 := [_, _]) rfl ?_
      refine h_s rfl ?_
      obtain ⟨g, hg⟩ : ∃ g, 121 - k = g + 1 := ⟨120 - k, by omega⟩
      rw [hg] at hR
      rw [show rdAll tp tn 121 1 0 s n = ⟨false, p.i, p.s, p.n⟩ from by rw [hR, rdAll, hp, if_neg (fun q => absurd (h22.symm.trans q) (by decide))]]
      exact h_ri rfl rfl ⟨rfl, T.tape, XD, by show p.i ≤ 121; omega, F⟩
  · obtain ⟨i, s2, n2, x3, rfl, hki, hi, T, XD, F, hR⟩ := hJ
    exact absurd hi (by omega)
theorem m1_neg {a : Nat} (h : a ≤ 121) : -1 - nI a < 0 := (show ∀ a, a ≤ 121 → -1 - nI a < 0 by decide) a h
end RI
section XT
variable {X : List Int32} {w w1 : ab_W} {r : Nat} {s : List Int32} {n : Nat} {st ks : List Int32} {kp : Bool} {tp : List Int32} {tn : Nat} {bo so nu : List Int32}
set_option maxRecDepth 100000 in
set_option maxHeartbeats 4000000 in
theorem x_text_b (R : XW w s n st ks kp tp tn bo so nu) (p : PR) (hp : rdAll tp tn 121 1 0 s n = p) (hok : p.ok = false) : ab_Q X kX5_text [.ref 0] w (XP w (-1 - nI (tP tp tn p.i)) s n st ks kp tp 0 bo so nu) := by
  have R0 := R
  obtain ⟨x0, XR, ⟨sd, nd, XD⟩, ⟨sk, nk, XK, hkp⟩, XPl, XT, XS, x45, xl⟩ := R
  have r0 := XR.1
  have p0 := XPl.1
  have d0 := XD.1
  have hn : n ≤ 8 := XR.2.2.2.2.2.2.2
  have RC := R0
  show ab_H X kX5_text 0 [some (.ref 0), none] [] w _
  refine h_s rfl ?_
  refine h_gf rfl rfl rfl x0 rfl ?_
  refine h_s rfl ?_
  refine h_gf rfl rfl rfl x0 rfl ?_
  refine hq_v rfl rfl rfl d0 rfl rfl (x_takeRow XR XD (by decide)) (fun v1 w1 q1 => ?_)
  obtain ⟨rfl, XD, f1⟩ := q1
  have x0 := (f1 0 (by decide)).trans x0
  have XR := XR.fr (w1 := w1) (fun j _ _ => f1 j (by omega))
  have XT := XT.fr (w1 := w1) (fun j _ _ => f1 j (by omega))
  obtain ⟨tk, hr, A, B, C, XT0⟩ := XT.tok
  have r0 := XR.1
  have d0 := XD.1
  have t0 := XT0.1
  refine h_n (st2 := []) rfl ?_
  refine h_s rfl ?_
  refine h_gf rfl rfl rfl x0 rfl ?_
  refine h_s rfl ?_
  refine h_gf rfl rfl rfl x0 rfl ?_
  refine hq_v rfl rfl rfl t0 rfl rfl (x_readInto XT XD) (fun v2 w2 q2 => ?_)
  rw [hp] at q2
  obtain ⟨rfl, XT, XD, hpi, f2⟩ := q2
  have hle := tP_le (tp := tp) (tn := tn) p.i
  have htn := XT0.2.2.2.2.2.2.1
  have hans : rdAns tp tn p = -1 - nI (tP tp tn p.i) := by unfold rdAns; rw [hok]; rfl
  have x0 := (f2 0 (by decide)).trans x0
  have XR := XR.fr (w1 := w2) (fun j _ _ => f2 j (by omega))
  obtain ⟨tk, hr, A, B, C, XT0⟩ := XT.tok
  have r0 := XR.1
  have d0 := XD.1
  have t0 := XT0.1
  refine h_t hans ?_
  refine h_n (st2 := [_]) rfl ?_
  iterate 2 refine h_s rfl ?_
  refine h_gf rfl rfl rfl x0 rfl ?_
  refine h_k (y := 0) rfl rfl ?_
  refine h_pf rfl rfl t0 rfl (fun w5 e5 f5 => ?_)
  have x0 := (f5 0 (by decide)).trans x0
  have XR := XR.fr (w1 := w5) (fun j _ _ => f5 j (by omega))
  have XD := XD.fr (w1 := w5) (fun j _ _ => f5 j (by omega))
  have r0 := XR.1
  have d0 := XD.1
  refine h_s rfl ?_
  refine h1_lt rfl rfl (fun h32 => ?_) (fun h32 => absurd (m1_neg (by omega)) h32)
  refine h_s rfl ?_
  have XT5 : TapeX w5 tp 0 := ⟨⟨_, _, e5⟩, (f5 _ (by decide)).trans XT0.2.1, ⟨XT0.2.2.2.2.2.1, Nat.zero_le _⟩, ⟨A, (f5 _ (by decide)).trans XT0.2.2.1, XT0.2.2.2.2.2.2.2.1⟩, ⟨B, (f5 _ (by decide)).trans XT0.2.2.2.1, XT0.2.2.2.2.2.2.2.2.1⟩, ⟨C, (f5 _ (by decide)).trans XT0.2.2.2.2.1, XT0.2.2.2.2.2.2.2.2.2⟩⟩
  have G : ∀ i, (i = 0 ∨ (23 ≤ i ∧ i < 39) ∨ 44 ≤ i) → w5[i]? = w[i]? := fun i hi => (f5 i (by omega)).trans ((f2 i (by omega)).trans (f1 i (by omega)))
  exact h_ri rfl rfl ⟨rfl, ⟨x0, XR, ⟨_, _, XD⟩, ⟨sk, nk, XK.fr (fun i _ _ => G i (by omega)), hkp⟩, XPl.fr (fun i _ _ => G i (by omega)), XT5, XS.fr (fun i _ _ _ => G i (by omega)), (G 45 (by decide)).trans x45, xl⟩, fun i hi => G i (by omega)⟩
set_option maxRecDepth 100000 in
set_option maxHeartbeats 4000000 in
theorem x_text_k (R : XW w s n st ks kp tp tn bo so nu) (p : PR) (hp : rdAll tp tn 121 1 0 s n = p) (hok : p.ok = true) : ab_Q X kX5_text [.ref 0] w (XP w (nI p.i) p.s p.n st ks kp tp 0 bo so nu) := by
  have R0 := R
  obtain ⟨x0, XR, ⟨sd, nd, XD⟩, ⟨sk, nk, XK, hkp⟩, XPl, XT, XS, x45, xl⟩ := R
  have r0 := XR.1
  have p0 := XPl.1
  have d0 := XD.1
  have hn : n ≤ 8 := XR.2.2.2.2.2.2.2
  have RC := R0
  show ab_H X kX5_text 0 [some (.ref 0), none] [] w _
  refine h_s rfl ?_
  refine h_gf rfl rfl rfl x0 rfl ?_
  refine h_s rfl ?_
  refine h_gf rfl rfl rfl x0 rfl ?_
  refine hq_v rfl rfl rfl d0 rfl rfl (x_takeRow XR XD (by decide)) (fun v1 w1 q1 => ?_)
  obtain ⟨rfl, XD, f1⟩ := q1
  have x0 := (f1 0 (by decide)).trans x0
  have XR := XR.fr (w1 := w1) (fun j _ _ => f1 j (by omega))
  have XT := XT.fr (w1 := w1) (fun j _ _ => f1 j (by omega))
  obtain ⟨tk, hr, A, B, C, XT0⟩ := XT.tok
  have r0 := XR.1
  have d0 := XD.1
  have t0 := XT0.1
  refine h_n (st2 := []) rfl ?_
  refine h_s rfl ?_
  refine h_gf rfl rfl rfl x0 rfl ?_
  refine h_s rfl ?_
  refine h_gf rfl rfl rfl x0 rfl ?_
  refine hq_v rfl rfl rfl t0 rfl rfl (x_readInto XT XD) (fun v2 w2 q2 => ?_)
  rw [hp] at q2
  obtain ⟨rfl, XT, XD, hpi, f2⟩ := q2
  have hle := tP_le (tp := tp) (tn := tn) p.i
  have htn := XT0.2.2.2.2.2.2.1
  have hans : rdAns tp tn p = nI p.i := by unfold rdAns; rw [hok]; rfl
  have x0 := (f2 0 (by decide)).trans x0
  have XR := XR.fr (w1 := w2) (fun j _ _ => f2 j (by omega))
  obtain ⟨tk, hr, A, B, C, XT0⟩ := XT.tok
  have r0 := XR.1
  have d0 := XD.1
  have t0 := XT0.1
  refine h_t hans ?_
  refine h_n (st2 := [_]) rfl ?_
  iterate 2 refine h_s rfl ?_
  refine h_gf rfl rfl rfl x0 rfl ?_
  refine h_k (y := 0) rfl rfl ?_
  refine h_pf rfl rfl t0 rfl (fun w5 e5 f5 => ?_)
  have x0 := (f5 0 (by decide)).trans x0
  have XR := XR.fr (w1 := w5) (fun j _ _ => f5 j (by omega))
  have XD := XD.fr (w1 := w5) (fun j _ _ => f5 j (by omega))
  have r0 := XR.1
  have d0 := XD.1
  refine h_s rfl ?_
  refine hM_lt rfl rfl rfl rfl (by omega) (fun h32 => absurd h32 (by omega)) (fun h32 => ?_)
  refine h_s rfl ?_
  refine h_gf rfl rfl rfl x0 rfl ?_
  refine h_s rfl ?_
  refine h_gf rfl rfl rfl x0 rfl ?_
  refine hq_v rfl rfl rfl r0 rfl rfl (x_takeRow XD XR (by decide)) (fun v3 w3 q3 => ?_)
  obtain ⟨rfl, XR3, f3⟩ := q3
  have XD3 := XD.fr (w1 := w3) (fun j _ _ => f3 j (by omega))
  refine h_n (st2 := []) rfl ?_
  refine h_s rfl ?_
  have XT5 : TapeX w5 tp 0 := ⟨⟨_, _, e5⟩, (f5 _ (by decide)).trans XT0.2.1, ⟨XT0.2.2.2.2.2.1, Nat.zero_le _⟩, ⟨A, (f5 _ (by decide)).trans XT0.2.2.1, XT0.2.2.2.2.2.2.2.1⟩, ⟨B, (f5 _ (by decide)).trans XT0.2.2.2.1, XT0.2.2.2.2.2.2.2.2.1⟩, ⟨C, (f5 _ (by decide)).trans XT0.2.2.2.2.1, XT0.2.2.2.2.2.2.2.2.2⟩⟩
  have XT6 := XT5.fr (w1 := w3) (fun j _ _ => f3 j (by omega))
  have G : ∀ i, (i = 0 ∨ (23 ≤ i ∧ i < 39) ∨ 44 ≤ i) → w3[i]? = w[i]? := fun i hi => (f3 i (by omega)).trans ((f5 i (by omega)).trans ((f2 i (by omega)).trans (f1 i (by omega))))
  have x0 := (f3 0 (by decide)).trans x0
  exact h_ri rfl rfl ⟨rfl, ⟨x0, XR3, ⟨_, _, XD3⟩, ⟨sk, nk, XK.fr (fun i _ _ => G i (by omega)), hkp⟩, XPl.fr (fun i _ _ => G i (by omega)), XT6, XS.fr (fun i _ _ _ => G i (by omega)), (G 45 (by decide)).trans x45, xl⟩, fun i hi => G i (by omega)⟩
end XT
