/-! THE REFERENCE: worth, open, quarrel: what is tried and put back; what keeps SI -/
def rowOK (g : Nat → Int32) (h n : Nat) : Prop := (∃ k, k < 7 ∧ g 0 = nI k) ∧ (g 1 = -1 ∨ ∃ t, t < 8 ∧ g 1 = nI t ∧ (t = h + 1 ∨ t + 1 = h)) ∧ inn (g 2) 8 ∧ isN (g 3) 24 ∧ isN (g 4) 24 ∧ inn (g 5) 8 ∧ isN (g 6) 10 ∧ isN (g 7) n
section RN
variable {X : List Int32} {k pc : Nat} {ls : List (Option Value)} {st st2 : List Value} {w w2 : ab_W} {v : Option Value} {Q : Option Value → ab_W → Prop}
theorem ab_n (e : st = st2) (t : ab_G X k pc ls st2 w v w2) : ab_G X k pc ls st w v w2 := e ▸ t
theorem h_n (e : st = st2) (t : ab_H X k pc ls st2 w Q) : ab_H X k pc ls st w Q := e ▸ t
end RN
section SIS
variable {s : List Int32} {n : Nat}
theorem SI_f (I : SI s n) (hl : s.length = 90) {h k : Nat} {x : Int32} (hh : h < 8) (hk : k < 8) (hx : h < n → rowOK (fun k' => if k' = k then x else fld s h k') h n) : SI (s.set (2 + 8 * h + k) x) n := by
  have hd : ∀ j, 66 ≤ j → (s.set (2 + 8 * h + k) x).getD j 0 = s.getD j 0 := fun j hj => gD_ne (by omega)
  refine ⟨fun h' hh' => ?_, fun d hd' => by rw [hd _ (by omega)]; exact I.2.1 d hd', fun q hq => by rw [hd _ (by omega)]; exact I.2.2 q hq⟩
  show rowOK (fld (s.set (2 + 8 * h + k) x) h') h' n
  by_cases e : h' = h
  · subst e
    have e2 : ∀ k', k' < 8 → fld (s.set (2 + 8 * h' + k) x) h' k' = if k' = k then x else fld s h' k' := by
      intro k' hk'
      rw [fld_set s x hl hh hk hk']
      by_cases e3 : k' = k
      · rw [if_pos ⟨rfl, e3⟩, if_pos e3]
      · rw [if_neg (fun q => e3 q.2), if_neg e3]
    have := hx hh'
    unfold rowOK at this ⊢
    rw [e2 0 (by omega), e2 1 (by omega), e2 2 (by omega), e2 3 (by omega), e2 4 (by omega), e2 5 (by omega), e2 6 (by omega), e2 7 (by omega)]
    exact this
  · have e2 : ∀ k', k' < 8 → fld (s.set (2 + 8 * h + k) x) h' k' = fld s h' k' := by
      intro k' hk'
      rw [fld_set s x hl hh hk hk', if_neg (fun q => e q.1)]
    have := I.1 h' hh'
    unfold rowOK
    rw [e2 0 (by omega), e2 1 (by omega), e2 2 (by omega), e2 3 (by omega), e2 4 (by omega), e2 5 (by omega), e2 6 (by omega), e2 7 (by omega)]
    exact this
theorem SI_kind (I : SI s n) (hl : s.length = 90) {h : Nat} {x : Int32} (hh : h < 8) (hx : isN x 7) : SI (s.set (2 + 8 * h + 0) x) n :=
  SI_f I hl hh (by omega) (fun hn => by obtain ⟨a0, a1, a2, a3, a4, a5, a6, a7⟩ := I.1 h hn; obtain ⟨j, hj, e⟩ := hx; exact ⟨⟨j, hj, e⟩, a1, a2, a3, a4, a5, a6, a7⟩)
theorem SI_stair (I : SI s n) (hl : s.length = 90) {h : Nat} {x : Int32} (hh : h < 8) (hx : x = -1 ∨ ∃ t, t < 8 ∧ x = nI t ∧ (t = h + 1 ∨ t + 1 = h)) : SI (s.set (2 + 8 * h + 1) x) n :=
  SI_f I hl hh (by omega) (fun hn => by obtain ⟨a0, a1, a2, a3, a4, a5, a6, a7⟩ := I.1 h hn; exact ⟨a0, hx, a2, a3, a4, a5, a6, a7⟩)
theorem SI_leave (I : SI s n) (hl : s.length = 90) {h : Nat} {x : Int32} (hh : h < 8) (hx : inn x 8) : SI (s.set (2 + 8 * h + 2) x) n :=
  SI_f I hl hh (by omega) (fun hn => by obtain ⟨a0, a1, a2, a3, a4, a5, a6, a7⟩ := I.1 h hn; exact ⟨a0, a1, hx, a3, a4, a5, a6, a7⟩)
theorem SI_from (I : SI s n) (hl : s.length = 90) {h : Nat} {x : Int32} (hh : h < 8) (hx : isN x 24) : SI (s.set (2 + 8 * h + 3) x) n :=
  SI_f I hl hh (by omega) (fun hn => by obtain ⟨a0, a1, a2, a3, a4, a5, a6, a7⟩ := I.1 h hn; exact ⟨a0, a1, a2, hx, a4, a5, a6, a7⟩)
theorem SI_to (I : SI s n) (hl : s.length = 90) {h : Nat} {x : Int32} (hh : h < 8) (hx : isN x 24) : SI (s.set (2 + 8 * h + 4) x) n :=
  SI_f I hl hh (by omega) (fun hn => by obtain ⟨a0, a1, a2, a3, a4, a5, a6, a7⟩ := I.1 h hn; exact ⟨a0, a1, a2, a3, hx, a5, a6, a7⟩)
theorem SI_foes (I : SI s n) (hl : s.length = 90) {h : Nat} {x : Int32} (hh : h < 8) (hx : inn x 8) : SI (s.set (2 + 8 * h + 5) x) n :=
  SI_f I hl hh (by omega) (fun hn => by obtain ⟨a0, a1, a2, a3, a4, a5, a6, a7⟩ := I.1 h hn; exact ⟨a0, a1, a2, a3, a4, hx, a6, a7⟩)
theorem SI_sleep (I : SI s n) (hl : s.length = 90) {h : Nat} {x : Int32} (hh : h < 8) (hx : isN x 10) : SI (s.set (2 + 8 * h + 6) x) n :=
  SI_f I hl hh (by omega) (fun hn => by obtain ⟨a0, a1, a2, a3, a4, a5, a6, a7⟩ := I.1 h hn; exact ⟨a0, a1, a2, a3, a4, a5, hx, a7⟩)
theorem SI_bed (I : SI s n) (hl : s.length = 90) {h : Nat} {x : Int32} (hh : h < 8) (hx : isN x n) : SI (s.set (2 + 8 * h + 7) x) n :=
  SI_f I hl hh (by omega) (fun hn => by obtain ⟨a0, a1, a2, a3, a4, a5, a6, a7⟩ := I.1 h hn; exact ⟨a0, a1, a2, a3, a4, a5, a6, hx⟩)
theorem SI_door (I : SI s n) (hl : s.length = 90) (hn : n ≤ 8) {d : Nat} {b : Bool} (hd : d < 14) : SI (s.set (66 + d) (z01 b)) n := by
  refine ⟨fun h hh => ?_, fun d' hd' => ?_, fun q hq => by rw [gD_ne (by omega)]; exact I.2.2 q hq⟩
  · have e : ∀ k, k < 8 → fld (s.set (66 + d) (z01 b)) h k = fld s h k := fun k hk => gD_ne (by omega)
    rw [e 0 (by omega), e 1 (by omega), e 2 (by omega), e 3 (by omega), e 4 (by omega), e 5 (by omega), e 6 (by omega), e 7 (by omega)]
    exact I.1 h hh
  · rw [gD_set _ _ _ _ (by omega)]
    by_cases e : 66 + d' = 66 + d
    · rw [if_pos e]
      exact ⟨b, rfl⟩
    · rw [if_neg e]
      exact I.2.1 d' hd'
theorem SI_spot (I : SI s n) (hl : s.length = 90) (hn : n ≤ 8) {k : Nat} {x : Int32} (hk : k < 10) (hx : x = -1 ∨ isN x n) : SI (s.set (80 + k) x) n := by
  refine ⟨fun h hh => ?_, fun d' hd' => by rw [gD_ne (by omega)]; exact I.2.1 d' hd', fun q hq => ?_⟩
  · have e : ∀ j, j < 8 → fld (s.set (80 + k) x) h j = fld s h j := fun j hj => gD_ne (by omega)
    rw [e 0 (by omega), e 1 (by omega), e 2 (by omega), e 3 (by omega), e 4 (by omega), e 5 (by omega), e 6 (by omega), e 7 (by omega)]
    exact I.1 h hh
  · rw [gD_set _ _ _ _ (by omega)]
    by_cases e : 80 + q = 80 + k
    · rw [if_pos e]
      exact hx
    · rw [if_neg e]
      exact I.2.2 q hq
theorem SI_seed (I : SI s n) (hn : n ≤ 8) (x : Int32) : SI (s.set 1 x) n := by
  refine ⟨fun h hh => ?_, fun d' hd' => by rw [gD_ne (by omega)]; exact I.2.1 d' hd', fun q hq => by rw [gD_ne (by omega)]; exact I.2.2 q hq⟩
  have e : ∀ j, j < 8 → fld (s.set 1 x) h j = fld s h j := fun j hj => gD_ne (by omega)
  rw [e 0 (by omega), e 1 (by omega), e 2 (by omega), e 3 (by omega), e 4 (by omega), e 5 (by omega), e 6 (by omega), e 7 (by omega)]
  exact I.1 h hh
theorem set_back (s : List Int32) (j : Nat) (x : Int32) (hj : j < s.length) : (s.set j x).set j (s.getD j 0) = s := by
  rw [List.set_set]
  apply l_ext (m := s.length) (List.length_set ..) rfl
  intro i _
  rw [gD_set _ _ _ _ hj]
  by_cases e : i = j
  · rw [if_pos e, e]
  · rw [if_neg e]
theorem inn_0 (n : Nat) : inn 0 n := fun i _ _ => b_0 i
end SIS
/-- the first d with p d that has the least g -/
def bestD (p : Nat → Bool) (g : Nat → Nat) : Nat → Int32 × Nat
  | 0 => (-1, 0)
  | m + 1 => if p m = true ∧ ((bestD p g m).1 < 0 ∨ g m < (bestD p g m).2) then (nI m, g m) else bestD p g m
def offN (s : List Int32) (n : Nat) (c : Int32) : Nat := cntR (fun f => offB s n f c) n
theorem offN_le (s : List Int32) (n : Nat) (c : Int32) : offN s n c ≤ n := cntR_le _ _
section MF
variable {X : List Int32} {w : ab_W} {s : List Int32} {n : Nat} {st ks : List Int32} {kp : Bool} {tp : List Int32} {tn : Nat} {bo so nu : List Int32}
theorem m_onesO (s : List Int32) {n : Nat} (c : Int32) (hn : n ≤ 8) : ab_M X kX6_ones [.int (bs (fun f => offB s n f c) n)] w (some (.int (nI (offN s n c)))) w := m_onesB hn
set_option maxRecDepth 100000 in
set_option maxHeartbeats 4000000 in
theorem m_worth_k (R : MW w s n st ks kp tp tn bo so nu) (I : SI s n) (h c : Nat) (hh : h < n) (hc : c < 24) : ab_Q X kX6_worth [.ref 54, .int (nI h), .int (nI c)] w (MP w (nI (offN (s.set (2 + 8 * h + 2) 0) n (nI c)) - nI (offN s n (nI c))) s n st ks kp tp tn bo so nu) := by
  have M := R.ms
  have R0 := R
  obtain ⟨oth, nz, mv, fr, to, vl, wr, a54, a55, a56, a57, a58, a59, a60, a61, a62, a63, a64, l, h0, hn, ht⟩ := R
  show ab_H X kX6_worth 0 [some (.ref 54), some (.int (nI h)), some (.int (nI c)), none, none, none] [] w _
  iterate 2 refine h_s rfl ?_
  refine h_cv rfl rfl rfl a54 rfl rfl (m_isHouse1 M ⟨h, by omega, rfl⟩) ?_
  refine h_n (st2 := [_]) rfl ?_
  iterate 2 refine h_s rfl ?_
  refine h_c rfl (m_isClock1 ⟨c, by omega, rfl⟩) ?_
  refine h_n (st2 := [_]) rfl ?_
  iterate 3 refine h_s rfl ?_
  refine h_k (y := 2) rfl rfl ?_
  refine h_cv rfl rfl rfl a54 rfl rfl (m_its M h 2 (by omega) (by omega) rfl rfl) ?_
  refine h_n (st2 := [_]) rfl ?_
  iterate 3 refine h_s rfl ?_
  refine h_cv rfl rfl rfl a54 rfl rfl (m_offSet M I (nI c)) ?_
  refine h_n (st2 := [_]) rfl ?_
  refine h_c rfl (m_onesO s (nI c) hn) ?_
  refine h_n (st2 := [_]) rfl ?_
  iterate 2 refine h_s rfl ?_
  refine h_gf rfl rfl rfl a54 rfl ?_
  refine h_s rfl ?_
  refine h_k (y := 2) rfl rfl ?_
  refine h_c rfl (m_at h 2 rfl rfl) ?_
  refine h_n (st2 := [_, _]) rfl ?_
  refine h_k (y := 0) rfl rfl ?_
  refine h_is (2 + 8 * h + 2) rfl a55 (by omega) rfl (by omega) (fun w1 e1 f1 => ?_)
  have M1 := (R0.sj e1 (by omega) f1).ms
  have I1 := SI_leave I l.1 (h := h) (by omega) (inn_0 8)
  have a54 := (f1 54 (by decide)).trans a54
  iterate 2 refine h_s rfl ?_
  refine h_cv rfl rfl rfl a54 rfl rfl (m_offSet M1 I1 (nI c)) ?_
  refine h_n (st2 := [_]) rfl ?_
  refine h_c rfl (m_onesO (s.set (2 + 8 * h + 2) 0) (nI c) hn) ?_
  refine h_n (st2 := [_]) rfl ?_
  iterate 2 refine h_s rfl ?_
  refine h_gf rfl rfl rfl a54 rfl ?_
  refine h_s rfl ?_
  refine h_k (y := 2) rfl rfl ?_
  refine h_c rfl (m_at h 2 rfl rfl) ?_
  refine h_n (st2 := [_, _]) rfl ?_
  refine h_s rfl ?_
  refine h_is (2 + 8 * h + 2) rfl e1 (by rw [List.length_set]; omega) rfl (by rw [List.length_set]; omega) (fun w2 e2 f2 => ?_)
  rw [show fld s h 2 = s.getD (2 + 8 * h + 2) 0 from rfl, set_back s (2 + 8 * h + 2) 0 (by omega)] at e2
  iterate 3 refine h_s rfl ?_
  exact h_ri rfl rfl ⟨rfl, R0.s55 e2 l.1 h0 hn (fun i hi => (f2 i hi).trans (f1 i hi)), fun i hi => (f2 i (by omega)).trans (f1 i (by omega))⟩
end MF
