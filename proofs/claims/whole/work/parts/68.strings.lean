/-! TEXT: strings of the class; words -/
section RS
variable {X : List Int32} {k pc n : Nat} {ls : List (Option Value)} {st : List Value} {w w1 w2 : ab_W} {v v1 : Option Value}
/-- a call on a text -/
theorem ab_cvs {ix k' J pl : Nat} {nest : Bool} {as : List Value} (h : ab_lk (it_ (ab_mi k)) pc = some (.invokevirtual ix, n)) (hl : ab_lk (ab_me (ic (ab_mi k))) ix = some (k', nest, pl)) (hr : (st.take (in_ (ab_mi k'))).reverse = .retAddr J :: as)
    (hc : (Nat.ble (in_ (ab_mi k')) st.length && Nat.blt (ih_ (ab_mi k')) (ih_ (ab_mi k)) && Nat.ble (iL (ab_mi k')) 13 && decide (((st.drop (in_ (ab_mi k'))).map Value.category).sum ≤ 8) && decide ((lg_sl (st.take (in_ (ab_mi k'))).reverse).length ≤ iL (ab_mi k'))) = true)
    (hJ : (Nat.ble 10 J && Nat.blt J 27) = true) (hcc : (Nat.beq 8 (ic (ab_mi k')) && !is_ (ab_mi k') && !((iy (ab_mi k')).name == "<init>")) = true)
    (a : ab_M X k' (.retAddr J :: as) w v1 w1) (t : ab_G X k (pc + 3) ls (v1.toList ++ st.drop (in_ (ab_mi k'))) w1 v w2) : ab_G X k pc ls st w v w2 := by
  refine ab_c (k' := k') (as := .retAddr J :: as) (pc' := pc + 3) (ls' := ls) (st' := st.drop (in_ (ab_mi k'))) (w' := w) ?_ a t
  rw [ab_stp_of h]
  show ab_inv (ab_mi k) 1 pc ix ls st w = _
  unfold ab_inv
  simp only [hl]
  rw [hc]
  simp only [hr]
  have e : (Nat.ble 10 J && Nat.blt J 27 && Nat.beq 8 (ic (ab_mi k')) && !is_ (ab_mi k') && !((iy (ab_mi k')).name == "<init>")) = true := by
    rw [hJ, Bool.true_and]
    exact hcc
  rw [e]
theorem ab_gs {ix J pl : Nat} {nest : Bool} (h : ab_lk (it_ (ab_mi k)) pc = some (.getfield ix, n)) (hl : ab_lk (ab_fl (ic (ab_mi k))) ix = some (8, 0, nest, pl)) (hJ : (Nat.ble 10 J && Nat.blt J 27) = true) (t : ab_G X k (pc + 3) ls (.retAddr (J + 40) :: st) w v w2) : ab_G X k pc ls (.retAddr J :: st) w v w2 := by
  refine ab_s ?_ t
  rw [ab_stp_of h]
  show ab_getf _ pc ix ls (.retAddr J :: st) w = _
  unfold ab_getf
  simp only [hl, hJ]
  rfl
theorem ab_gs1 {ix J pl : Nat} {nest : Bool} (h : ab_lk (it_ (ab_mi k)) pc = some (.getfield ix, n)) (hl : ab_lk (ab_fl (ic (ab_mi k))) ix = some (8, 1, nest, pl)) (hJ : (Nat.ble 10 J && Nat.blt J 27) = true) (t : ab_G X k (pc + 3) ls (.int 0 :: st) w v w2) : ab_G X k pc ls (.retAddr J :: st) w v w2 := by
  refine ab_s ?_ t
  rw [ab_stp_of h]
  show ab_getf _ pc ix ls (.retAddr J :: st) w = _
  unfold ab_getf
  simp only [hl, hJ]
  rfl
theorem xi_50 (X : List Int32) {j : Nat} (h : 50 ≤ j) : ab_xi X j = none := by
  unfold ab_xi
  match j, h with
  | j + 2, _ => rfl
theorem ab_als {j : Nat} {xs : List Int32} (h : ab_lk (it_ (ab_mi k)) pc = some (.arraylength, n)) (h50 : 50 ≤ j) (hx : ab_str[j - 50]? = some xs) (t : ab_G X k (pc + 1) ls (.int (nI xs.length) :: st) w v w2) : ab_G X k pc ls (.retAddr j :: st) w v w2 := by
  refine ab_s ?_ t
  rw [ab_stp_of h]
  show ab_alen X pc ls (.retAddr j :: st) w = _
  unfold ab_alen
  simp only [xi_50 X h50, Nat.ble_eq_true_of_le h50, hx]
  rfl
theorem ab_bals {i j : Nat} {xs : List Int32} (h : ab_lk (it_ (ab_mi k)) pc = some (.baload, n)) (h50 : 50 ≤ j) (hx : ab_str[j - 50]? = some xs) (hi : i < xs.length) (hm : xs.length < 2 ^ 31) (t : ab_G X k (pc + 1) ls (.int (xs.getD i 0) :: st) w v w2) : ab_G X k pc ls (.int (nI i) :: .retAddr j :: st) w v w2 := by
  refine ab_s ?_ t
  rw [ab_stp_of h]
  show ab_bald pc ls (.int (nI i) :: .retAddr j :: st) w = _
  unfold ab_bald
  simp only [Nat.ble_eq_true_of_le h50, hx, ab_in_nI hi hm, nI_clamp (show i < 2 ^ 31 by omega)]
  rfl
theorem ab_rc {x : Int32} (h : ab_lk (it_ (ab_mi k)) pc = some (.ireturn, n)) (hr : ir (ab_mi k) = some .char) (hx : (x == x.toUInt32.toUInt16.toUInt32.toInt32) = true) : ab_G X k pc ls [.int x] w (some (.int x)) w := by
  refine ab_r ?_
  rw [ab_stp_of h]
  have e : ab_rfit (some .char) x = true := hx
  unfold ab_ex
  simp only [hr, e]
end RS
/-- the words -/
def wdL (j : Nat) : List Int32 := ab_str.getD j []
theorem wd_len : ∀ j, j < 17 → (wdL j).length ≤ 8 ∧ 2 ≤ (wdL j).length := by decide +kernel
theorem wd_get {j : Nat} (h : j < 17) : ab_str[j]? = some (wdL j) := by
  unfold wdL
  rw [List.getD_eq_getElem?_getD]
  have : j < ab_str.length := h
  rw [List.getElem?_eq_getElem this]
  rfl
theorem wd_ch : ∀ j, j < 17 → ∀ i, i < (wdL j).length → (((wdL j).getD i 0 &&& 255).toUInt32 % 65536).toInt32 = (wdL j).getD i 0 ∧ ((wdL j).getD i 0 == ((wdL j).getD i 0).toUInt32.toUInt16.toUInt32.toInt32) = true := by decide +kernel
theorem sh_0 : ∀ m, m ≤ 8 → nI m >>> ((0 : Int32) &&& 31) = nI m := by decide +kernel
theorem J_ok {j : Nat} (h : j < 17) : (Nat.ble 10 (10 + j) && Nat.blt (10 + j) 27) = true := by
  rw [Nat.ble_eq_true_of_le (by omega), Nat.blt_eq.mpr (by omega)]
  rfl
section XW_
variable {X : List Int32} {w : ab_W} {tp : List Int32} {tn : Nat} {tk hr : Int32}
set_option maxRecDepth 100000 in
set_option maxHeartbeats 4000000 in
theorem x_coder {j : Nat} (hj : j < 17) : ab_M X kJ0_coder_7d493 [.retAddr (10 + j)] w (some (.int 0)) w := by
  show ab_G X kJ0_coder_7d493 0 [some (.retAddr (10 + j))] [] w _ _
  refine ab_s rfl ?_
  refine ab_s rfl ?_
  refine ab_s rfl ?_
  refine ab_gs1 rfl rfl (J_ok hj) ?_
  refine ab_s rfl ?_
  exact ab_ri rfl rfl
set_option maxRecDepth 100000 in
set_option maxHeartbeats 4000000 in
theorem x_isLatin1 {j : Nat} (hj : j < 17) : ab_M X kJ0_isLatin1_aae02 [.retAddr (10 + j)] w (some (.int 1)) w := by
  show ab_G X kJ0_isLatin1_aae02 0 [some (.retAddr (10 + j))] [] w _ _
  refine ab_s rfl ?_
  refine ab_s rfl ?_
  refine ab_s rfl ?_
  refine ab_gs1 rfl rfl (J_ok hj) ?_
  refine ab_s rfl ?_
  refine ab_k (y := 1) rfl rfl ?_
  refine ab_s rfl ?_
  exact ab_ri rfl rfl
set_option maxRecDepth 100000 in
set_option maxHeartbeats 4000000 in
theorem x_strlen {j : Nat} (hj : j < 17) : ab_M X kJ0_length_8abf5 [.retAddr (10 + j)] w (some (.int (nI (wdL j).length))) w := by
  show ab_G X kJ0_length_8abf5 0 [some (.retAddr (10 + j))] [] w _ _
  refine ab_s rfl ?_
  refine ab_gs rfl rfl (J_ok hj) ?_
  refine ab_als rfl (by omega) (by rw [show 10 + j + 40 - 50 = j by omega]; exact wd_get hj) ?_
  refine ab_s rfl ?_
  refine ab_cvs rfl rfl rfl rfl (J_ok hj) rfl (x_coder hj) ?_
  refine ab_n (st2 := [_, _]) rfl ?_
  refine ab_s rfl ?_
  refine ab_t (sh_0 _ (wd_len j hj).1) ?_
  exact ab_ri rfl rfl
set_option maxRecDepth 100000 in
set_option maxHeartbeats 4000000 in
theorem x_chk3 {i m : Nat} (hi : i < m) (hm : m < 2 ^ 31) : ab_M X kJ3_checkIndex_8e157 [.int (nI i), .int (nI m), .retAddr 99] w (some (.int (nI i))) w := by
  show ab_G X kJ3_checkIndex_8e157 0 [some (.int (nI i)), some (.int (nI m)), some (.retAddr 99)] [] w _ _
  refine ab_s rfl ?_
  refine jM_lt rfl rfl rfl rfl (by omega) (fun h1 => absurd h1 (by omega)) (fun h1 => ?_)
  iterate 2 refine ab_s rfl ?_
  refine jN_lt rfl rfl rfl rfl (by omega) (by omega) (fun h6 => ?_) (fun h6 => absurd hi h6)
  refine ab_s rfl ?_
  exact ab_ri rfl rfl
set_option maxRecDepth 100000 in
set_option maxHeartbeats 4000000 in
theorem x_chk0 {i m : Nat} (hi : i < m) (hm : m < 2 ^ 31) : ab_M X kJ0_checkIndex_df160 [.int (nI i), .int (nI m)] w (none) w := by
  show ab_G X kJ0_checkIndex_df160 0 [some (.int (nI i)), some (.int (nI m))] [] w _ _
  iterate 3 refine ab_s rfl ?_
  refine ab_c rfl (x_chk3 hi hm) ?_
  refine ab_n (st2 := [_]) rfl ?_
  refine ab_s rfl ?_
  exact ab_r rfl
set_option maxRecDepth 100000 in
set_option maxHeartbeats 4000000 in
theorem x_charAt1 {j : Nat} (hj : j < 17) {i : Nat} (hi : i < (wdL j).length) : ab_M X kJ1_charAt_3b067 [.retAddr (10 + j + 40), .int (nI i)] w (some (.int ((wdL j).getD i 0))) w := by
  show ab_G X kJ1_charAt_3b067 0 [some (.retAddr (10 + j + 40)), some (.int (nI i))] [] w _ _
  have h8 := wd_len j hj
  have hx : ab_str[10 + j + 40 - 50]? = some (wdL j) := by rw [show 10 + j + 40 - 50 = j by omega]; exact wd_get hj
  iterate 2 refine ab_s rfl ?_
  refine ab_als rfl (by omega) hx ?_
  refine ab_c rfl (x_chk0 hi (by omega)) ?_
  refine ab_n (st2 := []) rfl ?_
  iterate 2 refine ab_s rfl ?_
  refine ab_bals rfl (by omega) hx hi (by omega) ?_
  refine ab_k (y := 255) rfl rfl ?_
  iterate 2 refine ab_s rfl ?_
  refine ab_t (wd_ch j hj i hi).1 ?_
  exact ab_rc rfl rfl (wd_ch j hj i hi).2
set_option maxRecDepth 100000 in
set_option maxHeartbeats 4000000 in
theorem x_charAt {j : Nat} (hj : j < 17) {i : Nat} (hi : i < (wdL j).length) : ab_M X kJ0_charAt_5068e [.retAddr (10 + j), .int (nI i)] w (some (.int ((wdL j).getD i 0))) w := by
  show ab_G X kJ0_charAt_5068e 0 [some (.retAddr (10 + j)), some (.int (nI i))] [] w _ _
  refine ab_s rfl ?_
  refine ab_cvs rfl rfl rfl rfl (J_ok hj) rfl (x_isLatin1 hj) ?_
  refine ab_n (st2 := [_]) rfl ?_
  refine ab_s rfl ?_
  refine ab_s rfl ?_
  refine ab_gs rfl rfl (J_ok hj) ?_
  refine ab_s rfl ?_
  refine ab_c rfl (x_charAt1 hj hi) ?_
  refine ab_n (st2 := [_]) rfl ?_
  exact ab_rc rfl rfl (wd_ch j hj i hi).2
set_option maxRecDepth 100000 in
set_option maxHeartbeats 4000000 in
theorem x_letters {j : Nat} (hj : j < 17) : ab_M X kX4_letters [.int (nI j)] w (some (.retAddr (10 + j))) w := by
  show ab_G X kX4_letters 0 [some (.int (nI j))] [] w _ _
  rcases (show j = 0 ∨ j = 1 ∨ j = 2 ∨ j = 3 ∨ j = 4 ∨ j = 5 ∨ j = 6 ∨ j = 7 ∨ j = 8 ∨ j = 9 ∨ j = 10 ∨ j = 11 ∨ j = 12 ∨ j = 13 ∨ j = 14 ∨ j = 15 ∨ j = 16 by omega) with rfl | rfl | rfl | rfl | rfl | rfl | rfl | rfl | rfl | rfl | rfl | rfl | rfl | rfl | rfl | rfl | rfl
  · refine ab_s rfl ?_
    refine ab_Nsw (a := 0) rfl rfl (by decide) rfl rfl ?_
    refine ab_s rfl ?_
    exact ab_r rfl
  · refine ab_s rfl ?_
    refine ab_Nsw (a := 1) rfl rfl (by decide) rfl rfl ?_
    refine ab_s rfl ?_
    exact ab_r rfl
  · refine ab_s rfl ?_
    refine ab_Nsw (a := 2) rfl rfl (by decide) rfl rfl ?_
    refine ab_s rfl ?_
    exact ab_r rfl
  · refine ab_s rfl ?_
    refine ab_Nsw (a := 3) rfl rfl (by decide) rfl rfl ?_
    refine ab_s rfl ?_
    exact ab_r rfl
  · refine ab_s rfl ?_
    refine ab_Nsw (a := 4) rfl rfl (by decide) rfl rfl ?_
    refine ab_s rfl ?_
    exact ab_r rfl
  · refine ab_s rfl ?_
    refine ab_Nsw (a := 5) rfl rfl (by decide) rfl rfl ?_
    refine ab_s rfl ?_
    exact ab_r rfl
  · refine ab_s rfl ?_
    refine ab_Nsw (a := 6) rfl rfl (by decide) rfl rfl ?_
    refine ab_s rfl ?_
    exact ab_r rfl
  · refine ab_s rfl ?_
    refine ab_Nsw (a := 7) rfl rfl (by decide) rfl rfl ?_
    refine ab_s rfl ?_
    exact ab_r rfl
  · refine ab_s rfl ?_
    refine ab_Nsw (a := 8) rfl rfl (by decide) rfl rfl ?_
    refine ab_s rfl ?_
    exact ab_r rfl
  · refine ab_s rfl ?_
    refine ab_Nsw (a := 9) rfl rfl (by decide) rfl rfl ?_
    refine ab_s rfl ?_
    exact ab_r rfl
  · refine ab_s rfl ?_
    refine ab_Nsw (a := 10) rfl rfl (by decide) rfl rfl ?_
    refine ab_s rfl ?_
    exact ab_r rfl
  · refine ab_s rfl ?_
    refine ab_Nsw (a := 11) rfl rfl (by decide) rfl rfl ?_
    refine ab_s rfl ?_
    exact ab_r rfl
  · refine ab_s rfl ?_
    refine ab_Nsw (a := 12) rfl rfl (by decide) rfl rfl ?_
    refine ab_s rfl ?_
    exact ab_r rfl
  · refine ab_s rfl ?_
    refine ab_Nsw (a := 13) rfl rfl (by decide) rfl rfl ?_
    refine ab_s rfl ?_
    exact ab_r rfl
  · refine ab_s rfl ?_
    refine ab_Nsw (a := 14) rfl rfl (by decide) rfl rfl ?_
    refine ab_s rfl ?_
    exact ab_r rfl
  · refine ab_s rfl ?_
    refine ab_Nsw (a := 15) rfl rfl (by decide) rfl rfl ?_
    refine ab_s rfl ?_
    exact ab_r rfl
  · refine ab_s rfl ?_
    refine ab_swd rfl (by decide) rfl ?_
    refine ab_s rfl ?_
    exact ab_r rfl
end XW_
