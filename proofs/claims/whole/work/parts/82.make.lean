/-! THE TWO OBJECTS ARE MADE -/
section RW
variable {X : List Int32} {k pc n : Nat} {ls : List (Option Value)} {st : List Value} {w w1 w2 : ab_W} {v : Option Value} {Q : Option Value → ab_W → Prop}
theorem ap_new {L : Nat} {c : ab_E} (hw : w.length = L) : (w ++ [c])[L]? = some c := by
  subst hw
  simp
theorem ap_old {L i : Nat} {c : ab_E} (hw : w.length = L) (h : i < L) : (w ++ [c])[i]? = w[i]? := by
  subst hw
  exact List.getElem?_append_left h
theorem ap_len {L : Nat} {c : ab_E} (hw : w.length = L) : (w ++ [c]).length = L + 1 := by
  subst hw
  simp
theorem len_fr {r : Nat} {c d : ab_E} (h1 : w[r]? = some c) (h2 : w1[r]? = some d) (F : ∀ i, i ≠ r → w1[i]? = w[i]?) {L : Nat} (hw : w.length = L) : w1.length = L := by
  subst hw
  have key : ∀ i, w1[i]? = none ↔ w[i]? = none := fun i => by
    by_cases e : i = r
    · rw [e, h1, h2]
      exact ⟨fun q => (by cases q), fun q => (by cases q)⟩
    · rw [F i e]
  have k1 := List.getElem?_eq_none_iff.mp ((key w.length).mpr (List.getElem?_eq_none_iff.mpr (Nat.le_refl _)))
  have k2 := List.getElem?_eq_none_iff.mp ((key w1.length).mp (List.getElem?_eq_none_iff.mpr (Nat.le_refl _)))
  omega
theorem h_newo {ix ci pl L : Nat} (h : ab_lk (it_ (ab_mi k)) pc = some (.new ix, n)) (hl : ab_lk (ab_nw (ic (ab_mi k))) ix = some (ci, pl)) (hc : Nat.blt ci 7 = true) (hw : w.length = L) (t : ∀ w1, w1.length = L + 1 → w1[L]? = some (.inl (ci, ab_dfl ci)) → (∀ i, i < L → w1[i]? = w[i]?) → ab_H X k (pc + 3) ls (.ref L :: st) w1 Q) : ab_H X k pc ls st w Q := by
  obtain ⟨v, w2, h1, h2⟩ := t _ (ap_len hw) (ap_new (c := .inl (ci, ab_dfl ci)) hw) (fun i hi => ap_old hw hi)
  refine ⟨v, w2, ab_s ?_ h1, h2⟩
  rw [ab_stp_of h]
  unfold ab_ex
  simp only [hl, hc, hw]
  rfl
theorem h_newi {m L : Nat} {x : Int32} (h : ab_lk (it_ (ab_mi k)) pc = some (.newarray .int, n)) (hx : x = nI m) (hm : m ≤ 1000) (hw : w.length = L) (t : ∀ w1, w1.length = L + 1 → w1[L]? = some (.inr (List.replicate m 0)) → (∀ i, i < L → w1[i]? = w[i]?) → ab_H X k (pc + 2) ls (.ref L :: st) w1 Q) : ab_H X k pc ls (.int x :: st) w Q := by
  subst hx
  obtain ⟨v, w2, h1, h2⟩ := t _ (ap_len hw) (ap_new (c := .inr (List.replicate m 0)) hw) (fun i hi => ap_old hw hi)
  refine ⟨v, w2, ab_s ?_ h1, h2⟩
  rw [ab_stp_of h]
  unfold ab_ex
  simp only [nI_clamp (show m < 2 ^ 31 by omega), hw, decide_eq_false (sgn_n (show m < 2 ^ 31 by omega)), Nat.ble_eq_true_of_le (show m ≤ 100000 by omega)]
  rfl
theorem h_newa {m L ix kk pl : Nat} {x : Int32} (h : ab_lk (it_ (ab_mi k)) pc = some (.anewarray ix, n)) (hl : ab_lk (ab_na (ic (ab_mi k))) ix = some (kk, pl)) (hk : (Nat.beq kk 7 || Nat.beq kk 8) = true) (hx : x = nI m) (hm : m ≤ 1000) (hw : w.length = L) (t : ∀ w1, w1.length = L + 1 → w1[L]? = some (.inl (kk, List.replicate m .null)) → (∀ i, i < L → w1[i]? = w[i]?) → ab_H X k (pc + 3) ls (.ref L :: st) w1 Q) : ab_H X k pc ls (.int x :: st) w Q := by
  subst hx
  obtain ⟨v, w2, h1, h2⟩ := t _ (ap_len hw) (ap_new (c := .inl (kk, List.replicate m .null)) hw) (fun i hi => ap_old hw hi)
  refine ⟨v, w2, ab_s ?_ h1, h2⟩
  rw [ab_stp_of h]
  unfold ab_ex
  simp only [hl, hk, nI_clamp (show m < 2 ^ 31 by omega), hw, decide_eq_false (sgn_n (show m < 2 ^ 31 by omega)), Nat.ble_eq_true_of_le (show m ≤ 100000 by omega)]
  rfl
theorem h_aas {r u kk ci j : Nat} {xs vs : List Value} {i : Int32} (h : ab_lk (it_ (ab_mi k)) pc = some (.aastore, n)) (hw : w[r]? = some (.inl (kk, xs))) (hu : w[u]? = some (.inl (ci, vs))) (hk : (Nat.beq kk 7 || Nat.beq kk 8) = true) (hc : Nat.beq ci (ab_el kk) = true) (hi : i = nI j) (hj : j < xs.length) (hm : xs.length < 2 ^ 31) (t : ∀ w1, w1[r]? = some (.inl (kk, xs.set j (.ref u))) → (∀ i, i ≠ r → w1[i]? = w[i]?) → ab_H X k (pc + 1) ls st w1 Q) : ab_H X k pc ls (.ref u :: .int i :: .ref r :: st) w Q := by
  subst hi
  obtain ⟨v, w2, h1, h2⟩ := t (w.set r (.inl (kk, xs.set j (.ref u)))) (wd_set hw) (fun i hi => wd_ne hi)
  refine ⟨v, w2, ab_s ?_ h1, h2⟩
  rw [ab_stp_of h]
  show ab_aast pc ls (.ref u :: .int (nI j) :: .ref r :: st) w = _
  unfold ab_aast
  simp only [hw, hu, hk, hc, ab_in_nI hj hm, nI_clamp (show j < 2 ^ 31 by omega)]
  rfl
end RW
section IX
variable {X : List Int32} {w : ab_W} {r : Nat}
set_option maxRecDepth 100000 in
set_option maxHeartbeats 4000000 in
theorem i_house : ab_M X kX0_init [.ref r] w none w := by
  show ab_G X kX0_init 0 [some (.ref r)] [] w _ _
  iterate 2 refine ab_s rfl ?_
  exact ab_r rfl
set_option maxRecDepth 100000 in
set_option maxHeartbeats 4000000 in
theorem i_sheet (hl : w.length = r + 1) (hr : w[r]? = some (.inl (3, ab_dfl 3))) : ab_Q X kX3_init [.ref r] w (fun v w1 => v = none ∧ w1.length = r + 2 ∧ w1[r]? = some (.inl (3, [.int 0, .int 0, .ref (r + 1)])) ∧ w1[r + 1]? = some (.inr (List.replicate 40 0)) ∧ ∀ i, i < r → w1[i]? = w[i]?) := by
  have F : ∀ i, i < r → w[i]? = w[i]? := fun _ _ => rfl
  show ab_H X kX3_init 0 [some (.ref r)] [] w _
  iterate 3 refine h_s rfl ?_
  refine h_k (y := 0) rfl rfl ?_
  refine h_pf rfl rfl hr rfl (fun w1 e1 f1 => ?_)
  replace hl := len_fr hr e1 f1 hl
  replace hr := e1
  replace F := fun i (hi : i < r) => (f1 i (by omega)).trans (F i hi)
  refine h_s rfl ?_
  refine h_k (y := 0) rfl rfl ?_
  refine h_pf rfl rfl hr rfl (fun w2 e2 f2 => ?_)
  replace hl := len_fr hr e2 f2 hl
  replace hr := e2
  replace F := fun i (hi : i < r) => (f2 i (by omega)).trans (F i hi)
  refine h_s rfl ?_
  refine h_k (y := 40) rfl rfl ?_
  refine h_newi (m := 40) rfl rfl (by decide) hl (fun w3 l3 h1 g3 => ?_)
  replace hl := l3
  replace F := fun i (hi : i < r) => (g3 i (by omega)).trans (F i hi)
  replace hr := (g3 _ (by omega)).trans hr
  refine h_pf rfl rfl hr rfl (fun w4 e4 f4 => ?_)
  replace hl := len_fr hr e4 f4 hl
  replace hr := e4
  replace F := fun i (hi : i < r) => (f4 i (by omega)).trans (F i hi)
  replace h1 := (f4 _ (by omega)).trans h1
  exact h_r rfl ⟨rfl, hl, hr, h1, F⟩
set_option maxRecDepth 100000 in
set_option maxHeartbeats 4000000 in
theorem i_tape (hl : w.length = r + 1) (hr : w[r]? = some (.inl (4, ab_dfl 4))) : ab_Q X kX4_init [.ref r] w (fun v w1 => v = none ∧ w1.length = r + 5 ∧ w1[r]? = some (.inl (4, [.ref (r + 1), .int 0, .ref (r + 2), .ref (r + 3), .ref (r + 4), .int 0, .int 0])) ∧ w1[r + 1]? = some (.inr (List.replicate 120 0)) ∧ w1[r + 2]? = some (.inr (List.replicate 121 0)) ∧ w1[r + 3]? = some (.inr (List.replicate 121 0)) ∧ w1[r + 4]? = some (.inr (List.replicate 121 0)) ∧ ∀ i, i < r → w1[i]? = w[i]?) := by
  have F : ∀ i, i < r → w[i]? = w[i]? := fun _ _ => rfl
  show ab_H X kX4_init 0 [some (.ref r)] [] w _
  iterate 3 refine h_s rfl ?_
  refine h_k (y := 120) rfl rfl ?_
  refine h_newi (m := 120) rfl rfl (by decide) hl (fun w5 l5 h1 g5 => ?_)
  replace hl := l5
  replace F := fun i (hi : i < r) => (g5 i (by omega)).trans (F i hi)
  replace hr := (g5 _ (by omega)).trans hr
  refine h_pf rfl rfl hr rfl (fun w6 e6 f6 => ?_)
  replace hl := len_fr hr e6 f6 hl
  replace hr := e6
  replace F := fun i (hi : i < r) => (f6 i (by omega)).trans (F i hi)
  replace h1 := (f6 _ (by omega)).trans h1
  refine h_s rfl ?_
  refine h_k (y := 0) rfl rfl ?_
  refine h_pf rfl rfl hr rfl (fun w7 e7 f7 => ?_)
  replace hl := len_fr hr e7 f7 hl
  replace hr := e7
  replace F := fun i (hi : i < r) => (f7 i (by omega)).trans (F i hi)
  replace h1 := (f7 _ (by omega)).trans h1
  refine h_s rfl ?_
  refine h_k (y := 121) rfl rfl ?_
  refine h_newi (m := 121) rfl rfl (by decide) hl (fun w8 l8 h2 g8 => ?_)
  replace hl := l8
  replace F := fun i (hi : i < r) => (g8 i (by omega)).trans (F i hi)
  replace hr := (g8 _ (by omega)).trans hr
  replace h1 := (g8 _ (by omega)).trans h1
  refine h_pf rfl rfl hr rfl (fun w9 e9 f9 => ?_)
  replace hl := len_fr hr e9 f9 hl
  replace hr := e9
  replace F := fun i (hi : i < r) => (f9 i (by omega)).trans (F i hi)
  replace h1 := (f9 _ (by omega)).trans h1
  replace h2 := (f9 _ (by omega)).trans h2
  refine h_s rfl ?_
  refine h_k (y := 121) rfl rfl ?_
  refine h_newi (m := 121) rfl rfl (by decide) hl (fun w10 l10 h3 g10 => ?_)
  replace hl := l10
  replace F := fun i (hi : i < r) => (g10 i (by omega)).trans (F i hi)
  replace hr := (g10 _ (by omega)).trans hr
  replace h1 := (g10 _ (by omega)).trans h1
  replace h2 := (g10 _ (by omega)).trans h2
  refine h_pf rfl rfl hr rfl (fun w11 e11 f11 => ?_)
  replace hl := len_fr hr e11 f11 hl
  replace hr := e11
  replace F := fun i (hi : i < r) => (f11 i (by omega)).trans (F i hi)
  replace h1 := (f11 _ (by omega)).trans h1
  replace h2 := (f11 _ (by omega)).trans h2
  replace h3 := (f11 _ (by omega)).trans h3
  refine h_s rfl ?_
  refine h_k (y := 121) rfl rfl ?_
  refine h_newi (m := 121) rfl rfl (by decide) hl (fun w12 l12 h4 g12 => ?_)
  replace hl := l12
  replace F := fun i (hi : i < r) => (g12 i (by omega)).trans (F i hi)
  replace hr := (g12 _ (by omega)).trans hr
  replace h1 := (g12 _ (by omega)).trans h1
  replace h2 := (g12 _ (by omega)).trans h2
  replace h3 := (g12 _ (by omega)).trans h3
  refine h_pf rfl rfl hr rfl (fun w13 e13 f13 => ?_)
  replace hl := len_fr hr e13 f13 hl
  replace hr := e13
  replace F := fun i (hi : i < r) => (f13 i (by omega)).trans (F i hi)
  replace h1 := (f13 _ (by omega)).trans h1
  replace h2 := (f13 _ (by omega)).trans h2
  replace h3 := (f13 _ (by omega)).trans h3
  replace h4 := (f13 _ (by omega)).trans h4
  refine h_s rfl ?_
  refine h_k (y := 0) rfl rfl ?_
  refine h_pf rfl rfl hr rfl (fun w14 e14 f14 => ?_)
  replace hl := len_fr hr e14 f14 hl
  replace hr := e14
  replace F := fun i (hi : i < r) => (f14 i (by omega)).trans (F i hi)
  replace h1 := (f14 _ (by omega)).trans h1
  replace h2 := (f14 _ (by omega)).trans h2
  replace h3 := (f14 _ (by omega)).trans h3
  replace h4 := (f14 _ (by omega)).trans h4
  refine h_s rfl ?_
  refine h_k (y := 0) rfl rfl ?_
  refine h_pf rfl rfl hr rfl (fun w15 e15 f15 => ?_)
  replace hl := len_fr hr e15 f15 hl
  replace hr := e15
  replace F := fun i (hi : i < r) => (f15 i (by omega)).trans (F i hi)
  replace h1 := (f15 _ (by omega)).trans h1
  replace h2 := (f15 _ (by omega)).trans h2
  replace h3 := (f15 _ (by omega)).trans h3
  replace h4 := (f15 _ (by omega)).trans h4
  exact h_r rfl ⟨rfl, hl, hr, h1, h2, h3, h4, F⟩
set_option maxRecDepth 100000 in
set_option maxHeartbeats 4000000 in
theorem i_plan (hl : w.length = r + 1) (hr : w[r]? = some (.inl (1, ab_dfl 1))) : ab_Q X kX1_init [.ref r] w (fun v w1 => v = none ∧ w1.length = r + 5 ∧ w1[r]? = some (.inl (1, [.ref (r + 1), .ref (r + 2), .ref (r + 3), .ref (r + 4)])) ∧ w1[r + 1]? = some (.inr (List.replicate 16 0)) ∧ w1[r + 2]? = some (.inr (List.replicate 16 0)) ∧ w1[r + 3]? = some (.inr (List.replicate 16 0)) ∧ w1[r + 4]? = some (.inr (List.replicate 16 0)) ∧ ∀ i, i < r → w1[i]? = w[i]?) := by
  have F : ∀ i, i < r → w[i]? = w[i]? := fun _ _ => rfl
  show ab_H X kX1_init 0 [some (.ref r)] [] w _
  iterate 3 refine h_s rfl ?_
  refine h_k (y := 16) rfl rfl ?_
  refine h_newi (m := 16) rfl rfl (by decide) hl (fun w16 l16 h1 g16 => ?_)
  replace hl := l16
  replace F := fun i (hi : i < r) => (g16 i (by omega)).trans (F i hi)
  replace hr := (g16 _ (by omega)).trans hr
  refine h_pf rfl rfl hr rfl (fun w17 e17 f17 => ?_)
  replace hl := len_fr hr e17 f17 hl
  replace hr := e17
  replace F := fun i (hi : i < r) => (f17 i (by omega)).trans (F i hi)
  replace h1 := (f17 _ (by omega)).trans h1
  refine h_s rfl ?_
  refine h_k (y := 16) rfl rfl ?_
  refine h_newi (m := 16) rfl rfl (by decide) hl (fun w18 l18 h2 g18 => ?_)
  replace hl := l18
  replace F := fun i (hi : i < r) => (g18 i (by omega)).trans (F i hi)
  replace hr := (g18 _ (by omega)).trans hr
  replace h1 := (g18 _ (by omega)).trans h1
  refine h_pf rfl rfl hr rfl (fun w19 e19 f19 => ?_)
  replace hl := len_fr hr e19 f19 hl
  replace hr := e19
  replace F := fun i (hi : i < r) => (f19 i (by omega)).trans (F i hi)
  replace h1 := (f19 _ (by omega)).trans h1
  replace h2 := (f19 _ (by omega)).trans h2
  refine h_s rfl ?_
  refine h_k (y := 16) rfl rfl ?_
  refine h_newi (m := 16) rfl rfl (by decide) hl (fun w20 l20 h3 g20 => ?_)
  replace hl := l20
  replace F := fun i (hi : i < r) => (g20 i (by omega)).trans (F i hi)
  replace hr := (g20 _ (by omega)).trans hr
  replace h1 := (g20 _ (by omega)).trans h1
  replace h2 := (g20 _ (by omega)).trans h2
  refine h_pf rfl rfl hr rfl (fun w21 e21 f21 => ?_)
  replace hl := len_fr hr e21 f21 hl
  replace hr := e21
  replace F := fun i (hi : i < r) => (f21 i (by omega)).trans (F i hi)
  replace h1 := (f21 _ (by omega)).trans h1
  replace h2 := (f21 _ (by omega)).trans h2
  replace h3 := (f21 _ (by omega)).trans h3
  refine h_s rfl ?_
  refine h_k (y := 16) rfl rfl ?_
  refine h_newi (m := 16) rfl rfl (by decide) hl (fun w22 l22 h4 g22 => ?_)
  replace hl := l22
  replace F := fun i (hi : i < r) => (g22 i (by omega)).trans (F i hi)
  replace hr := (g22 _ (by omega)).trans hr
  replace h1 := (g22 _ (by omega)).trans h1
  replace h2 := (g22 _ (by omega)).trans h2
  replace h3 := (g22 _ (by omega)).trans h3
  refine h_pf rfl rfl hr rfl (fun w23 e23 f23 => ?_)
  replace hl := len_fr hr e23 f23 hl
  replace hr := e23
  replace F := fun i (hi : i < r) => (f23 i (by omega)).trans (F i hi)
  replace h1 := (f23 _ (by omega)).trans h1
  replace h2 := (f23 _ (by omega)).trans h2
  replace h3 := (f23 _ (by omega)).trans h3
  replace h4 := (f23 _ (by omega)).trans h4
  exact h_r rfl ⟨rfl, hl, hr, h1, h2, h3, h4, F⟩
/-- the row at first -/
def S00 : List Int32 := ((List.replicate 90 (0 : Int32)).set 1 1).take 80 ++ List.replicate 10 (-1)
theorem hs_row {hs : List Value} (h8 : hs.length = 8) (h : ∀ q, q < 8 → hs[q]? = some (.ref (r + 3 + q))) : hs = rowHs r := by
  apply List.ext_getElem?
  intro i
  by_cases hi : i < 8
  · rw [h i hi, rowHs_g r hi]
  · rw [List.getElem?_eq_none_iff.mpr (by omega), List.getElem?_eq_none_iff.mpr (by rw [rowHs_l]; omega)]
theorem sp_all {sp : List Int32} (h : sp.length = 10) (g : ∀ q, q < 10 → sp.getD q 0 = -1) : sp = S00.drop 80 := l_ext (m := 10) h rfl (fun j hj => by rw [g j hj]; exact ((show ∀ j, j < 10 → (S00.drop 80).getD j 0 = -1 by decide) j hj).symm)
set_option maxRecDepth 100000 in
set_option maxHeartbeats 4000000 in
theorem i_row (hl : w.length = r + 1) (hr : w[r]? = some (.inl (2, ab_dfl 2))) : ab_Q X kX2_init [.ref r] w (fun v w1 => v = none ∧ w1.length = r + 11 ∧ RowW w1 r S00 0 ∧ ∀ i, i < r → w1[i]? = w[i]?) := by
  have F : ∀ i, i < r → w[i]? = w[i]? := fun _ _ => rfl
  show ab_H X kX2_init 0 [some (.ref r), none] [] w _
  iterate 3 refine h_s rfl ?_
  refine h_k (y := 8) rfl rfl ?_
  refine h_newa (m := 8) rfl rfl rfl rfl (by decide) hl (fun w0 l0 h1 g0 => ?_)
  replace hl := l0
  replace F := fun i (hi : i < r) => (g0 i (by omega)).trans (F i hi)
  replace hr := (g0 _ (by omega)).trans hr
  refine h_pf rfl rfl hr rfl (fun w24 e24 f24 => ?_)
  replace hl := len_fr hr e24 f24 hl
  replace hr := e24
  replace h1 := (f24 _ (by omega)).trans h1
  replace F := fun i (hi : i < r) => (f24 i (by omega)).trans (F i hi)
  refine h_s rfl ?_
  refine h_k (y := 0) rfl rfl ?_
  refine h_pf rfl rfl hr rfl (fun w25 e25 f25 => ?_)
  replace hl := len_fr hr e25 f25 hl
  replace hr := e25
  replace h1 := (f25 _ (by omega)).trans h1
  replace F := fun i (hi : i < r) => (f25 i (by omega)).trans (F i hi)
  refine h_s rfl ?_
  refine h_k (y := 0) rfl rfl ?_
  refine h_pf rfl rfl hr rfl (fun w26 e26 f26 => ?_)
  replace hl := len_fr hr e26 f26 hl
  replace hr := e26
  replace h1 := (f26 _ (by omega)).trans h1
  replace F := fun i (hi : i < r) => (f26 i (by omega)).trans (F i hi)
  refine h_s rfl ?_
  refine h_k (y := 1) rfl rfl ?_
  refine h_pf rfl rfl hr rfl (fun w27 e27 f27 => ?_)
  replace hl := len_fr hr e27 f27 hl
  replace hr := e27
  replace h1 := (f27 _ (by omega)).trans h1
  replace F := fun i (hi : i < r) => (f27 i (by omega)).trans (F i hi)
  refine h_s rfl ?_
  refine h_k (y := 10) rfl rfl ?_
  refine h_newi (m := 10) rfl rfl (by decide) hl (fun w28 l28 h2 g28 => ?_)
  replace hl := l28
  replace F := fun i (hi : i < r) => (g28 i (by omega)).trans (F i hi)
  replace hr := (g28 _ (by omega)).trans hr
  replace h1 := (g28 _ (by omega)).trans h1
  refine h_pf rfl rfl hr rfl (fun w29 e29 f29 => ?_)
  replace hl := len_fr hr e29 f29 hl
  replace hr := e29
  replace h1 := (f29 _ (by omega)).trans h1
  replace F := fun i (hi : i < r) => (f29 i (by omega)).trans (F i hi)
  replace h2 := (f29 _ (by omega)).trans h2
  refine h_k (y := 0) rfl rfl ?_
  refine h_s rfl ?_
  refine h_loop0 8 (fun i ls v => ls = [some (.ref r), some (.int (nI i))] ∧ v.length = r + 3 + i ∧ v[r]? = some (.inl (2, [.ref (r + 1), .int 0, .int 0, .int 1, .ref (r + 2)])) ∧ (∃ hs : List Value, v[r + 1]? = some (.inl (7, hs)) ∧ hs.length = 8 ∧ ∀ q, q < i → hs[q]? = some (.ref (r + 3 + q))) ∧ v[r + 2]? = some (.inr (List.replicate 10 0)) ∧ (∀ q, q < i → ∃ vs, v[r + 3 + q]? = some (.inl (0, vs)) ∧ vs.length = 9) ∧ ∀ i, i < r → v[i]? = w[i]?) ⟨rfl, hl, hr, ⟨_, h1, rfl, fun q hq => absurd hq (by omega)⟩, h2, fun q hq => absurd hq (by omega), F⟩ (fun i ls v hi hJ ih => ?_) (fun ls v hJ => ?_)
  · obtain ⟨rfl, hl, hr, ⟨hs, h1, h8, hh⟩, h2, HB, F⟩ := hJ
    iterate 2 refine h_s rfl ?_
    refine h_gf rfl rfl rfl hr rfl ?_
    refine h_alq (x := nI 8) rfl h1 rfl (by rw [h8]) ?_
    refine hN_ge (b := 8) rfl rfl rfl rfl (by omega) (by omega) (fun h44 => absurd h44 (by omega)) (fun h44 => ?_)
    refine h_s rfl ?_
    refine h_gf rfl rfl rfl hr rfl ?_
    refine h_s rfl ?_
    refine h_newo rfl rfl rfl hl (fun w1 l1 c1 g1 => ?_)
    replace hr := (g1 _ (by omega)).trans hr
    replace h1 := (g1 _ (by omega)).trans h1
    replace h2 := (g1 _ (by omega)).trans h2
    refine h_s rfl ?_
    refine h_c rfl (i_house) ?_
    refine h_n (st2 := [_, _, _]) rfl ?_
    refine h_aas (j := i) rfl h1 c1 rfl rfl rfl (by omega) (by omega) (fun w2 e2 f2 => ?_)
    refine h_ii rfl rfl rfl ?_
    refine h_s rfl ?_
    refine ih _ _ ⟨rfl, len_fr h1 e2 f2 l1, (f2 _ (by omega)).trans hr, ⟨_, e2, by rw [List.length_set]; exact h8, fun q hq => ?_⟩, (f2 _ (by omega)).trans h2, fun q hq => ?_, fun q hq => (f2 _ (by omega)).trans ((g1 _ (by omega)).trans (F q hq))⟩
    · by_cases e : q = i
      · rw [e, List.getElem?_set_self (by omega)]
      · rw [List.getElem?_set_ne (fun e' => e e'.symm)]
        exact hh q (by omega)
    · by_cases e : q = i
      · rw [e]
        exact ⟨_, (f2 _ (by omega)).trans c1, rfl⟩
      · obtain ⟨vs, a1, a2⟩ := HB q (by omega)
        exact ⟨vs, (f2 _ (by omega)).trans ((g1 _ (by omega)).trans a1), a2⟩
  · obtain ⟨rfl, hl, hr, ⟨hs, h1, h8, hh⟩, h2, HB, F⟩ := hJ
    iterate 2 refine h_s rfl ?_
    refine h_gf rfl rfl rfl hr rfl ?_
    refine h_alq (x := nI 8) rfl h1 rfl (by rw [h8]) ?_
    refine hN_ge (b := 8) rfl rfl rfl rfl (by omega) (by omega) (fun h44 => ?_) (fun h44 => absurd (by omega) h44)
    refine h_k (y := 0) rfl rfl ?_
    refine h_s rfl ?_
    rw [hs_row h8 hh] at h1
    refine h_loop0 10 (fun i ls v => ls = [some (.ref r), some (.int (nI i))] ∧ v.length = r + 11 ∧ v[r]? = some (.inl (2, [.ref (r + 1), .int 0, .int 0, .int 1, .ref (r + 2)])) ∧ v[r + 1]? = some (.inl (7, rowHs r)) ∧ (∃ sp : List Int32, v[r + 2]? = some (.inr sp) ∧ sp.length = 10 ∧ ∀ q, q < i → sp.getD q 0 = -1) ∧ (∀ q, q < 8 → ∃ vs, v[r + 3 + q]? = some (.inl (0, vs)) ∧ vs.length = 9) ∧ ∀ i, i < r → v[i]? = w[i]?) ⟨rfl, hl, hr, h1, ⟨_, h2, rfl, fun q hq => absurd hq (by omega)⟩, HB, F⟩ (fun i ls v hi hJ ih => ?_) (fun ls v hJ => ?_)
    · obtain ⟨rfl, hl, hr, h1, ⟨sp, h2, hs10, hsp⟩, HB, F⟩ := hJ
      iterate 2 refine h_s rfl ?_
      refine h_gf rfl rfl rfl hr rfl ?_
      refine h_al (x := nI 10) rfl h2 (by rw [hs10]) ?_
      refine hN_ge (b := 10) rfl rfl rfl rfl (by omega) (by omega) (fun h74 => absurd h74 (by omega)) (fun h74 => ?_)
      refine h_s rfl ?_
      refine h_gf rfl rfl rfl hr rfl ?_
      refine h_s rfl ?_
      refine h_k (y := (-1)) rfl rfl ?_
      refine h_is i rfl h2 (by omega) rfl (by omega) (fun w2 e2 f2 => ?_)
      refine h_ii rfl rfl rfl ?_
      refine h_s rfl ?_
      refine ih _ _ ⟨rfl, len_fr h2 e2 f2 hl, (f2 _ (by omega)).trans hr, (f2 _ (by omega)).trans h1, ⟨_, e2, by rw [List.length_set]; exact hs10, fun q hq => ?_⟩, fun q hq => ?_, fun q hq => (f2 _ (by omega)).trans (F q hq)⟩
      · rw [gD_set _ _ _ _ (by omega)]
        by_cases e : q = i
        · rw [if_pos e]
        · rw [if_neg e]; exact hsp q (by omega)
      · obtain ⟨vs, a1, a2⟩ := HB q hq
        exact ⟨vs, (f2 _ (by omega)).trans a1, a2⟩
    · obtain ⟨rfl, hl, hr, h1, ⟨sp, h2, hs10, hsp⟩, HB, F⟩ := hJ
      iterate 2 refine h_s rfl ?_
      refine h_gf rfl rfl rfl hr rfl ?_
      refine h_al (x := nI 10) rfl h2 (by rw [hs10]) ?_
      refine hN_ge (b := 10) rfl rfl rfl rfl (by omega) (by omega) (fun h74 => ?_) (fun h74 => absurd (by omega) h74)
      rw [sp_all hs10 hsp] at h2
      exact h_r rfl ⟨rfl, hl, ⟨hr, h1, h2, fun q hq => absurd hq (by omega), HB, rfl, rfl, Nat.zero_le _⟩, F⟩
end IX
