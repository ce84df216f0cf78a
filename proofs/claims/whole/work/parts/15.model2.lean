/-! THE REFERENCE: who lets in, what is joined -/
/-- what the numbers of a row are -/
def SI (s : List Int32) (n : Nat) : Prop := (∀ h, h < n → (∃ k, k < 7 ∧ fld s h 0 = nI k) ∧ (fld s h 1 = -1 ∨ ∃ t, t < 8 ∧ fld s h 1 = nI t ∧ (t = h + 1 ∨ t + 1 = h)) ∧ inn (fld s h 2) 8 ∧ isN (fld s h 3) 24 ∧ isN (fld s h 4) 24 ∧ inn (fld s h 5) 8 ∧ isN (fld s h 6) 10 ∧ isN (fld s h 7) n) ∧ (∀ d, d < 14 → ∃ b, s.getD (66 + d) 0 = z01 b) ∧ ∀ k, k < 10 → s.getD (80 + k) 0 = -1 ∨ isN (s.getD (80 + k) 0) n
def hourB (s : List Int32) (h : Nat) (c : Int32) : Bool := if fld s h 3 ≤ fld s h 4 then decide (fld s h 3 ≤ c) && decide (c ≤ fld s h 4) else decide (fld s h 3 ≤ c) || !decide (fld s h 4 < c)
def plainB (s : List Int32) (h f : Nat) (c : Int32) : Bool := bt (fld s h 2) f && hourB s h c
def letB (s : List Int32) (h f : Nat) (c : Int32) : Bool :=
  if h = f then true else if fld s h 0 = 1 then plainB s h f c && decide (c < 20) else if fld s h 0 = 2 then hourB s h c else if fld s h 0 = 3 then true else if fld s h 0 = 4 then (plainB s h f c && decide (c < 20)) || decide (c = 12) else if fld s h 0 = 5 then plainB s h f c && (decide (7 ≤ c) && decide (c ≤ 19)) else if fld s h 0 = 6 then (plainB s h f c && decide (c < 20)) && !bt (fld s h 5) f else plainB s h f c
theorem lle (a b : Int32) : decide (a.toInt64 ≤ b.toInt64) = decide (a ≤ b) := by
  apply decide_eq_decide.mpr
  rw [Int64.le_iff_toInt_le, Int32.le_iff_toInt_le, Int32.toInt_toInt64, Int32.toInt_toInt64]
section M2
variable {X : List Int32} {w : ab_W} {s : List Int32} {n : Nat}
set_option maxRecDepth 100000 in
set_option maxHeartbeats 4000000 in
theorem m_isHour (M : MS w s n) (h : Nat) (hh : h < 8) (c : Int32) : ab_M X kX6_isHour [.ref 54, .int (nI h), .int c] w (some (.int (z01 (hourB s h c)))) w := by
  obtain ⟨vs, hm, -⟩ := id M
  show ab_G X kX6_isHour 0 [some (.ref 54), some (.int (nI h)), some (.int c), none, none] [] w _ _
  iterate 2 refine ab_s rfl ?_
  refine ab_k (y := 3) rfl rfl ?_
  refine ab_cv rfl rfl rfl hm rfl rfl (m_its M h 3 hh (by omega) rfl rfl) ?_
  iterate 3 refine ab_s rfl ?_
  refine ab_k (y := 4) rfl rfl ?_
  refine ab_cv rfl rfl rfl hm rfl rfl (m_its M h 4 hh (by omega) rfl rfl) ?_
  iterate 3 refine ab_s rfl ?_
  refine j2_le rfl rfl (fun h18 => ?_) (fun h18 => ?_)
  · iterate 6 refine ab_s rfl ?_
    refine ab_c rfl (m_in) ?_
    refine ab_rz rfl rfl ?_
    rw [lle, lle]
    unfold hourB
    rw [if_pos h18]
  · iterate 2 refine ab_s rfl ?_
    refine j2_ge rfl rfl (fun h23 => ?_) (fun h23 => ?_)
    · refine ab_k (y := 1) rfl rfl ?_
      refine ab_s rfl ?_
      exact ab_ri rfl (by unfold hourB; rw [if_neg h18]; first | (rw [decide_eq_true h23]; rfl) | (rw [decide_eq_false h23, decide_eq_true h29]; rfl) | (rw [decide_eq_false h23, decide_eq_false h29]; rfl))
    · iterate 2 refine ab_s rfl ?_
      refine j2_gt rfl rfl (fun h29 => ?_) (fun h29 => ?_)
      · refine ab_k (y := 0) rfl rfl ?_
        refine ab_s rfl ?_
        exact ab_ri rfl (by unfold hourB; rw [if_neg h18]; first | (rw [decide_eq_true h23]; rfl) | (rw [decide_eq_false h23, decide_eq_true h29]; rfl) | (rw [decide_eq_false h23, decide_eq_false h29]; rfl))
      · refine ab_k (y := 1) rfl rfl ?_
        refine ab_s rfl ?_
        exact ab_ri rfl (by unfold hourB; rw [if_neg h18]; first | (rw [decide_eq_true h23]; rfl) | (rw [decide_eq_false h23, decide_eq_true h29]; rfl) | (rw [decide_eq_false h23, decide_eq_false h29]; rfl))
set_option maxRecDepth 100000 in
set_option maxHeartbeats 4000000 in
theorem m_letK (M : MS w s n) (I : SI s n) (h f : Nat) (hh : h < n) (hf : f < 8) (hne : ¬ h = f) (c : Int32) (ls : List (Option Value)) (p q : Bool) (hp : p = plainB s h f c) (hq : q = (plainB s h f c && decide (c < 20))) : ab_G X kX6_isLetting 54 [some (.ref 54), some (.int (nI h)), some (.int (nI f)), some (.int c), some (.int (z01 p)), some (.int (z01 q))] [] w (some (.int (z01 (letB s h f c)))) w := by
  obtain ⟨vs, hm, -⟩ := id M
  have hn : n ≤ 8 := M.choose_spec.2.2.2.2.2
  have hh0 := hh
  have hh : h < 8 := by omega
  obtain ⟨k, hk7, hk⟩ := (I.1 h hh0).1
  have hlet : letB s h f c = if fld s h 0 = 1 then q else if fld s h 0 = 2 then hourB s h c else if fld s h 0 = 3 then true else if fld s h 0 = 4 then q || decide (c = 12) else if fld s h 0 = 5 then p && (decide (7 ≤ c) && decide (c ≤ 19)) else if fld s h 0 = 6 then q && !bt (fld s h 5) f else p := by
    unfold letB
    rw [if_neg hne, hp, hq]
  rw [hlet]
  have e1 : ∀ a b : Nat, a < 7 → b < 7 → (nI a = nI b ↔ a = b) := fun a b ha hb => nI_eq (by omega) (by omega)
  clear hlet hp hq
  iterate 2 refine ab_s rfl ?_
  refine ab_k (y := 0) rfl rfl ?_
  refine ab_cv rfl rfl rfl hm rfl rfl (m_its M h 0 hh (by omega) rfl rfl) ?_
  match k, hk7, hk with
  | 0, _, hk =>
      rw [hk]
      rw [if_neg (by decide), if_neg (by decide), if_neg (by decide), if_neg (by decide), if_neg (by decide), if_neg (by decide)]
      skip
      refine ab_swd rfl (by decide) rfl ?_
      refine ab_s rfl ?_
      exact ab_rz rfl rfl (by simp_all)
  | 1, _, hk =>
      rw [hk]
      rw [if_pos (by decide)]
      skip
      refine ab_sw rfl (by decide) rfl rfl ?_
      refine ab_s rfl ?_
      exact ab_rz rfl rfl (by simp_all)
  | 2, _, hk =>
      rw [hk]
      rw [if_neg (by decide), if_pos (by decide)]
      skip
      refine ab_sw rfl (by decide) rfl rfl ?_
      iterate 3 refine ab_s rfl ?_
      refine ab_cv rfl rfl rfl hm rfl rfl (m_isHour M h hh c) ?_
      exact ab_rz rfl rfl (by simp_all)
  | 3, _, hk =>
      rw [hk]
      rw [if_neg (by decide), if_neg (by decide), if_pos (by decide)]
      skip
      refine ab_sw rfl (by decide) rfl rfl ?_
      refine ab_k (y := 1) rfl rfl ?_
      exact ab_ri rfl (by first | (rw [h131, Bool.true_and, h145]; rfl) | simp_all [z01])
  | 4, _, hk =>
      rw [hk]
      rw [if_neg (by decide), if_neg (by decide), if_neg (by decide), if_pos (by decide)]
      skip
      refine ab_sw rfl (by decide) rfl rfl ?_
      refine ab_s rfl ?_
      refine z1_ne rfl rfl (fun h114 => ?_) (fun h114 => ?_)
      · refine ab_k (y := 1) rfl rfl ?_
        refine ab_s rfl ?_
        exact ab_ri rfl (by first | (rw [h131, Bool.true_and, h145]; rfl) | simp_all [z01])
      · refine ab_s rfl ?_
        refine ab_k (y := 12) rfl rfl ?_
        refine j2_ne rfl rfl (fun h120 => ?_) (fun h120 => ?_)
        · refine ab_k (y := 0) rfl rfl ?_
          exact ab_ri rfl (by first | (rw [h131, Bool.true_and, h145]; rfl) | simp_all [z01])
        · refine ab_k (y := 1) rfl rfl ?_
          refine ab_s rfl ?_
          exact ab_ri rfl (by first | (rw [h131, Bool.true_and, h145]; rfl) | simp_all [z01])
  | 5, _, hk =>
      rw [hk]
      rw [if_neg (by decide), if_neg (by decide), if_neg (by decide), if_neg (by decide), if_pos (by decide)]
      skip
      refine ab_sw rfl (by decide) rfl rfl ?_
      refine ab_s rfl ?_
      refine z1_eq rfl rfl (fun h131 => ?_) (fun h131 => ?_)
      · refine ab_k (y := 0) rfl rfl ?_
        exact ab_ri rfl (by first | (rw [h131, Bool.true_and, h145]; rfl) | simp_all [z01])
      · iterate 4 refine ab_s rfl ?_
        refine ab_c rfl (m_in) ?_
        refine ab_t (congrArg z01 (congr (congrArg and (lle 7 c)) (lle c 19))) ?_
        refine z1_eq rfl rfl (fun h145 => ?_) (fun h145 => ?_)
        · refine ab_k (y := 0) rfl rfl ?_
          exact ab_ri rfl (by first | (rw [h131, Bool.true_and, h145]; rfl) | simp_all [z01])
        · refine ab_k (y := 1) rfl rfl ?_
          refine ab_s rfl ?_
          exact ab_ri rfl (by first | (rw [h131, Bool.true_and, h145]; rfl) | simp_all [z01])
  | 6, _, hk =>
      rw [hk]
      rw [if_neg (by decide), if_neg (by decide), if_neg (by decide), if_neg (by decide), if_neg (by decide), if_pos (by decide)]
      skip
      refine ab_sw rfl (by decide) rfl rfl ?_
      refine ab_s rfl ?_
      refine z1_eq rfl rfl (fun h156 => ?_) (fun h156 => ?_)
      · refine ab_k (y := 0) rfl rfl ?_
        exact ab_ri rfl (by first | (rw [h131, Bool.true_and, h145]; rfl) | simp_all [z01])
      · iterate 2 refine ab_s rfl ?_
        refine ab_k (y := 5) rfl rfl ?_
        refine ab_cv rfl rfl rfl hm rfl rfl (m_its M h 5 hh (by omega) rfl rfl) ?_
        refine ab_s rfl ?_
        refine ab_c rfl (m_has f (by omega)) ?_
        refine z1_ne rfl rfl (fun h169 => ?_) (fun h169 => ?_)
        · refine ab_k (y := 0) rfl rfl ?_
          exact ab_ri rfl (by first | (rw [h131, Bool.true_and, h145]; rfl) | simp_all [z01])
        · refine ab_k (y := 1) rfl rfl ?_
          refine ab_s rfl ?_
          exact ab_ri rfl (by first | (rw [h131, Bool.true_and, h145]; rfl) | simp_all [z01])
set_option maxRecDepth 100000 in
set_option maxHeartbeats 4000000 in
theorem m_isLetting (M : MS w s n) (I : SI s n) (h f : Nat) (hh : h < n) (hf : f < 8) (c : Int32) : ab_M X kX6_isLetting [.ref 54, .int (nI h), .int (nI f), .int c] w (some (.int (z01 (letB s h f c)))) w := by
  obtain ⟨vs, hm, -⟩ := id M
  have hn : n ≤ 8 := M.choose_spec.2.2.2.2.2
  have hh8 : h < 8 := by omega
  show ab_G X kX6_isLetting 0 [some (.ref 54), some (.int (nI h)), some (.int (nI f)), some (.int c), none, none] [] w _ _
  iterate 2 refine ab_s rfl ?_
  refine ab_k (y := 2) rfl rfl ?_
  refine ab_cv rfl rfl rfl hm rfl rfl (m_its M h 2 hh8 (by omega) rfl rfl) ?_
  refine ab_s rfl ?_
  refine ab_c rfl (m_has f (by omega)) ?_
  refine z1_eq rfl rfl (fun h10 => ?_) (fun h10 => ?_)
  · refine ab_k (y := 0) rfl rfl ?_
    iterate 3 refine ab_s rfl ?_
    refine ab_k (y := 0) rfl rfl ?_
    iterate 3 refine ab_s rfl ?_
    refine j2_ne rfl rfl (fun h49 => ?_) (fun h49 => ?_)
    · exact m_letK M I h f hh hf (fun q => h49 (by rw [q])) c [] false false (by simp_all [plainB]) (by simp_all [plainB])
    · refine ab_k (y := 1) rfl rfl ?_
      exact ab_ri rfl (by rw [show letB s h f c = true by unfold letB; rw [if_pos ((nI_eq (by omega) (by omega)).mp h49)]]; rfl)
  · iterate 3 refine ab_s rfl ?_
    refine ab_cv rfl rfl rfl hm rfl rfl (m_isHour M h hh8 c) ?_
    refine z1_eq rfl rfl (fun h19 => ?_) (fun h19 => ?_)
    · refine ab_k (y := 0) rfl rfl ?_
      iterate 3 refine ab_s rfl ?_
      refine ab_k (y := 0) rfl rfl ?_
      iterate 3 refine ab_s rfl ?_
      refine j2_ne rfl rfl (fun h49 => ?_) (fun h49 => ?_)
      · exact m_letK M I h f hh hf (fun q => h49 (by rw [q])) c [] false false (by simp_all [plainB]) (by simp_all [plainB])
      · refine ab_k (y := 1) rfl rfl ?_
        exact ab_ri rfl (by rw [show letB s h f c = true by unfold letB; rw [if_pos ((nI_eq (by omega) (by omega)).mp h49)]]; rfl)
    · refine ab_k (y := 1) rfl rfl ?_
      iterate 5 refine ab_s rfl ?_
      refine ab_k (y := 20) rfl rfl ?_
      refine j2_ge rfl rfl (fun h37 => ?_) (fun h37 => ?_)
      · refine ab_k (y := 0) rfl rfl ?_
        iterate 3 refine ab_s rfl ?_
        refine j2_ne rfl rfl (fun h49 => ?_) (fun h49 => ?_)
        · exact m_letK M I h f hh hf (fun q => h49 (by rw [q])) c [] true false (by simp_all [plainB]) (by simp_all [plainB])
        · refine ab_k (y := 1) rfl rfl ?_
          exact ab_ri rfl (by rw [show letB s h f c = true by unfold letB; rw [if_pos ((nI_eq (by omega) (by omega)).mp h49)]]; rfl)
      · refine ab_k (y := 1) rfl rfl ?_
        iterate 4 refine ab_s rfl ?_
        refine j2_ne rfl rfl (fun h49 => ?_) (fun h49 => ?_)
        · exact m_letK M I h f hh hf (fun q => h49 (by rw [q])) c [] true true (by simp_all [plainB]) (by simp_all [plainB])
        · refine ab_k (y := 1) rfl rfl ?_
          exact ab_ri rfl (by rw [show letB s h f c = true by unfold letB; rw [if_pos ((nI_eq (by omega) (by omega)).mp h49)]]; rfl)
end M2
