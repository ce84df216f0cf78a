/-! TEXT: what is told, item by item; the class reads -/
def tnV (tp : List Int32) (tn i : Nat) : Nat := nvF tp (tP tp tn i) (runE dgB tp tn (tP tp tn i) - tP tp tn i)
def tkI (tp : List Int32) (tn i : Nat) : Nat := if tsN tp tn (tP tp tn i) = 1 then lst (isWd tp (tP tp tn i) (runE ltB tp tn (tP tp tn i))) 17 else 17
def tkW (tp : List Int32) (tn i j : Nat) : Bool := decide (tkI tp tn i = j)
def tkN (tp : List Int32) (tn i b : Nat) : Bool := decide (tsN tp tn (tP tp tn i) = 2) && decide (tnV tp tn i < b)
abbrev PR : Type := Bool × Nat × List Int32 × Nat
abbrev PR.ok (p : PR) : Bool := p.1
abbrev PR.i (p : PR) : Nat := p.2.1
abbrev PR.s (p : PR) : List Int32 := p.2.2.1
abbrev PR.n (p : PR) : Nat := p.2.2.2
def PR.on (p : PR) (f : Nat → List Int32 → Nat → PR) : PR := if p.ok = true then f p.i p.s p.n else p
section SP
variable (tp : List Int32) (tn : Nat)
def rdStair (h i : Nat) (s : List Int32) (n : Nat) : PR :=
  if tkW tp tn i 7 = true then (if h = 0 then ⟨false, i, s, n⟩ else ⟨true, i + 1, s.set (2 + 8 * h + 1) (nI (h - 1)), n⟩)
  else if tkW tp tn i 8 = true then (if h = 7 then ⟨false, i, s, n⟩ else ⟨true, i + 1, s.set (2 + 8 * h + 1) (nI (h + 1)), n⟩)
  else ⟨true, i, s, n⟩
def rdHours (h i : Nat) (s : List Int32) (n : Nat) : PR :=
  if tkW tp tn i 9 = true then
    if tkN tp tn (i + 1) 24 = true then
      if tkW tp tn (i + 2) 10 = true then
        if tkN tp tn (i + 3) 24 = true then ⟨true, i + 4, (s.set (2 + 8 * h + 3) (nI (tnV tp tn (i + 1)))).set (2 + 8 * h + 4) (nI (tnV tp tn (i + 3))), n⟩
        else ⟨false, i + 3, s, n⟩
      else ⟨false, i + 2, s, n⟩
    else ⟨false, i + 1, s, n⟩
  else ⟨true, i, s, n⟩
def rdSleep (h i : Nat) (s : List Int32) (n : Nat) : PR :=
  if tkW tp tn i 11 = true then
    if tkN tp tn (i + 1) 10 = true then ⟨true, i + 2, s.set (2 + 8 * h + 6) (nI (tnV tp tn (i + 1))), n⟩ else ⟨false, i + 1, s, n⟩
  else ⟨true, i, s, n⟩
def rdHouse (k i : Nat) (s : List Int32) (n : Nat) : PR :=
  if n < 8 then ((rdStair tp tn n (i + 1) (newS s n (nI k)) (n + 1)).on (rdHours tp tn n)).on (rdSleep tp tn n) else ⟨false, i, s, n⟩
def rdNamF (fi h : Nat) : Nat → Nat → List Int32 → Nat → PR
  | 0, i, s, n => ⟨false, i, s, n⟩
  | d + 1, i, s, n =>
    if tkN tp tn i 8 = true then
      if tsN tp tn (tP tp tn (i + 1)) = 2 then rdNamF fi h d (i + 1) (s.set (2 + 8 * h + fi) (markI (fld s h fi) (tnV tp tn i) true)) n
      else ⟨true, i + 1, s.set (2 + 8 * h + fi) (markI (fld s h fi) (tnV tp tn i) true), n⟩
    else ⟨false, i, s, n⟩
def rdNames (fi i : Nat) (s : List Int32) (n : Nat) : PR := if tkN tp tn i n = true then rdNamF tp tn fi (tnV tp tn i) 121 (i + 1) s n else ⟨false, i, s, n⟩
def rdDoor (i : Nat) (s : List Int32) (n : Nat) : PR := if tkN tp tn i 14 = true then ⟨true, i + 1, s.set (66 + tnV tp tn i) (z01 true), n⟩ else ⟨false, i, s, n⟩
def rdBed (i : Nat) (s : List Int32) (n : Nat) : PR :=
  if tkN tp tn i n = true then
    if tkW tp tn (i + 1) 16 = true then
      if tkN tp tn (i + 2) n = true then ⟨true, i + 3, s.set (2 + 8 * tnV tp tn i + 7) (nI (tnV tp tn (i + 2))), n⟩ else ⟨false, i + 2, s, n⟩
    else ⟨false, i + 1, s, n⟩
  else ⟨false, i, s, n⟩
def rdItem (i : Nat) (s : List Int32) (n : Nat) : PR :=
  if tkI tp tn i < 7 then rdHouse tp tn (tkI tp tn i) i s n
  else if tkI tp tn i = 12 then rdNames tp tn 2 (i + 1) s n
  else if tkI tp tn i = 13 then rdNames tp tn 5 (i + 1) s n
  else if tkI tp tn i = 14 then rdDoor tp tn (i + 1) s n
  else if tkI tp tn i = 15 then rdBed tp tn (i + 1) s n
  else ⟨false, i, s, n⟩
/-- all items: good, and how many; or the token that can't stand there -/
def rdAll : Nat → Nat → Nat → List Int32 → Nat → PR
  | 0, _, i, s, n => ⟨false, i, s, n⟩
  | d + 1, c, i, s, n =>
    if (rdItem tp tn i s n).ok = true then
      if tsN tp tn (tP tp tn (rdItem tp tn i s n).i) = 0 then ⟨true, c, (rdItem tp tn i s n).s, (rdItem tp tn i s n).n⟩
      else if tsN tp tn (tP tp tn (rdItem tp tn i s n).i) = 3 then rdAll d (c + 1) ((rdItem tp tn i s n).i + 1) (rdItem tp tn i s n).s (rdItem tp tn i s n).n
      else ⟨false, (rdItem tp tn i s n).i, (rdItem tp tn i s n).s, (rdItem tp tn i s n).n⟩
    else ⟨false, (rdItem tp tn i s n).i, (rdItem tp tn i s n).s, (rdItem tp tn i s n).n⟩
end SP
section SL
variable {tp : List Int32} {tn h i n b j m : Nat} {s : List Int32}
theorem on_t {p : PR} {f : Nat → List Int32 → Nat → PR} (e : p.ok = true) : p.on f = f p.i p.s p.n := if_pos e
theorem on_f {p : PR} {f : Nat → List Int32 → Nat → PR} (e : p.ok = false) : p.on f = p := if_neg (by rw [e]; decide)
theorem rdStair_n : (rdStair tp tn h i s n).n = n := by
  unfold rdStair
  repeat' split
  all_goals rfl
theorem rdHours_n : (rdHours tp tn h i s n).n = n := by
  unfold rdHours
  repeat' split
  all_goals rfl
theorem rdSleep_n : (rdSleep tp tn h i s n).n = n := by
  unfold rdSleep
  repeat' split
  all_goals rfl
theorem rdStair_i : i ≤ (rdStair tp tn h i s n).i := by
  unfold rdStair
  repeat' split
  all_goals first | exact Nat.le_refl _ | exact Nat.le_add_right ..
theorem rdHours_i : i ≤ (rdHours tp tn h i s n).i := by
  unfold rdHours
  repeat' split
  all_goals first | exact Nat.le_refl _ | exact Nat.le_add_right ..
theorem rdSleep_i : i ≤ (rdSleep tp tn h i s n).i := by
  unfold rdSleep
  repeat' split
  all_goals first | exact Nat.le_refl _ | exact Nat.le_add_right ..
theorem on_i {p : PR} {f : Nat → List Int32 → Nat → PR} (hp : i ≤ p.i) (hf : ∀ i s n, i ≤ (f i s n).i) : i ≤ (p.on f).i := by
  cases e : p.ok with
  | false => rw [on_f e]; exact hp
  | true => rw [on_t e]; exact Nat.le_trans hp (hf _ _ _)
theorem rdHouse_i {k : Nat} (e : (rdHouse tp tn k i s n).ok = true) : i + 1 ≤ (rdHouse tp tn k i s n).i := by
  unfold rdHouse at e ⊢
  by_cases hn : n < 8
  · rw [if_pos hn]
    exact on_i (on_i rdStair_i (fun _ _ _ => rdHours_i)) (fun _ _ _ => rdSleep_i)
  · rw [if_neg hn] at e
    cases e
theorem rdNamF_i {fi : Nat} : ∀ (d i : Nat) (s : List Int32), i ≤ (rdNamF tp tn fi h d i s n).i
  | 0, i, s => Nat.le_refl _
  | d + 1, i, s => by
    rw [rdNamF]
    split
    · split
      · exact Nat.le_trans (Nat.le_succ _) (rdNamF_i d _ _)
      · exact Nat.le_succ _
    · exact Nat.le_refl _
theorem rdNames_i {fi : Nat} : i ≤ (rdNames tp tn fi i s n).i := by
  unfold rdNames
  split
  · exact Nat.le_trans (Nat.le_succ _) (rdNamF_i _ _ _)
  · exact Nat.le_refl _
theorem rdDoor_i : i ≤ (rdDoor tp tn i s n).i := by
  unfold rdDoor
  repeat' split
  all_goals first | exact Nat.le_refl _ | exact Nat.le_add_right ..
theorem rdBed_i : i ≤ (rdBed tp tn i s n).i := by
  unfold rdBed
  repeat' split
  all_goals first | exact Nat.le_refl _ | exact Nat.le_add_right ..
theorem rdItem_i (e : (rdItem tp tn i s n).ok = true) : i + 1 ≤ (rdItem tp tn i s n).i := by
  unfold rdItem at e ⊢
  split at e
  · rename_i q; rw [if_pos q]; exact rdHouse_i e
  · rename_i q1
    rw [if_neg q1]
    split
    · exact rdNames_i
    · split
      · exact rdNames_i
      · split
        · exact rdDoor_i
        · split
          · exact rdBed_i
          · rename_i q2 q3 q4 q5
            rw [if_neg q2, if_neg q3, if_neg q4, if_neg q5] at e
            cases e
end SL
/-- the tokens of the class are all found -/
def TkD (tp : List Int32) (tn m : Nat) (A B C : List Int32) : Prop := TokD tp tn A B C (m + 1) ∧ m ≤ 120 ∧ tP tp tn m = tn ∧ ∀ j, j < m → tP tp tn j < tn
section TD
variable {tp A B C : List Int32} {tn i b j m : Nat}
theorem ts_0 {a : Nat} : tsN tp tn a = 0 ↔ ¬ a < tn := by
  unfold tsN
  constructor
  · intro h q
    rw [if_pos q] at h
    repeat' split at h
    all_goals cases h
  · intro q
    rw [if_neg q]
theorem TkD.lt (D : TkD tp tn m A B C) (hi : i ≤ m) (h : ¬ tsN tp tn (tP tp tn i) = 0) : i < m := by
  rcases Nat.lt_or_ge i m with q | q
  · exact q
  · have e : i = m := by omega
    rw [ts_0, e, D.2.2.1] at h
    omega
theorem tkI_lt (h : tkI tp tn i < 17) : tsN tp tn (tP tp tn i) = 1 := by
  unfold tkI at h
  split at h
  · assumption
  · omega
theorem TkD.ltI (D : TkD tp tn m A B C) (hi : i ≤ m) (h : tkI tp tn i < 17) : i + 1 ≤ m := D.lt hi (by rw [tkI_lt h]; decide)
theorem TkD.ltW (D : TkD tp tn m A B C) (hi : i ≤ m) (hj : j < 17) (h : tkW tp tn i j = true) : i + 1 ≤ m := D.ltI hi (by unfold tkW at h; rw [of_decide_eq_true h]; exact hj)
theorem tkN_ts (h : tkN tp tn i b = true) : tsN tp tn (tP tp tn i) = 2 ∧ tnV tp tn i < b := by
  unfold tkN at h
  rw [Bool.and_eq_true] at h
  exact ⟨of_decide_eq_true h.1, of_decide_eq_true h.2⟩
theorem TkD.ltN (D : TkD tp tn m A B C) (hi : i ≤ m) (h : tkN tp tn i b = true) : i + 1 ≤ m := D.lt hi (by rw [(tkN_ts h).1]; decide)
theorem m1_ne {a : Nat} (h : a < 17) : ¬ nI a = -1 := fun q => sgn_n (show a < 2 ^ 31 by omega) (by rw [q]; decide)
theorem tv_1 {a : Nat} (h : tsN tp tn a = 1) : tvI tp tn a = wdI tp a (runE ltB tp tn a) := by
  unfold tsN at h
  unfold tvI
  split at h
  · rename_i q
    rw [if_pos q]
    split at h
    · rename_i q; rw [if_pos q]
    · repeat' split at h
      all_goals cases h
  · cases h
theorem tv_2 (h : tsN tp tn (tP tp tn i) = 2) : tvI tp tn (tP tp tn i) = nI (tnV tp tn i) ∧ tnV tp tn i ≤ 999 := by
  unfold tsN at h
  unfold tvI tnV
  split at h
  · rename_i q
    rw [if_pos q]
    split at h
    · cases h
    · rename_i q2
      rw [if_neg q2]
      split at h
      · rename_i q3
        rw [if_pos q3]
        split at h
        · cases h
        · exact ⟨rfl, by omega⟩
      · split at h
        all_goals cases h
  · cases h
theorem tv_W (hj : j < 17) (h : tsN tp tn (tP tp tn i) = 1) : tvI tp tn (tP tp tn i) = nI j ↔ tkI tp tn i = j := by
  rw [tv_1 h]
  unfold wdI tkI
  rw [if_pos h]
  split
  · rw [nI_eq (by omega) (by omega)]
  · constructor
    · intro q; exact absurd q.symm (m1_ne hj)
    · intro q; omega
end TD
section RX
variable {X : List Int32} {w w1 : ab_W} {tp A B C : List Int32} {tn m i n : Nat} {tk hr : Int32} {s : List Int32}
theorem TokW.hr' {hr1 : Int32} (T : TokW w tp tn tk hr A B C) (e : w1[39]? = some (.inl (4, [.ref 40, .int (nI tn), .ref 41, .ref 42, .ref 43, .int tk, .int hr1]))) (F : ∀ j, j ≠ 39 → w1[j]? = w[j]?) : TokW w1 tp tn tk hr1 A B C := ⟨e, (F _ (by decide)).trans T.2.1, (F _ (by decide)).trans T.2.2.1, (F _ (by decide)).trans T.2.2.2.1, (F _ (by decide)).trans T.2.2.2.2.1, T.2.2.2.2.2⟩
theorem TokW.fr (T : TokW w tp tn tk hr A B C) (F : ∀ j, 39 ≤ j → j < 44 → w1[j]? = w[j]?) : TokW w1 tp tn tk hr A B C := ⟨(F _ (by decide) (by decide)).trans T.1, (F _ (by decide) (by decide)).trans T.2.1, (F _ (by decide) (by decide)).trans T.2.2.1, (F _ (by decide) (by decide)).trans T.2.2.2.1, (F _ (by decide) (by decide)).trans T.2.2.2.2.1, T.2.2.2.2.2⟩
/-- what a number taken here is, and where the reading goes on -/
def TN (tp : List Int32) (tn i b : Nat) (x : Int32) (i1 : Nat) : Prop := (tkN tp tn i b = true ∧ x = nI (tnV tp tn i) ∧ i + 1 = i1) ∨ (tkN tp tn i b = false ∧ x = -1 ∧ i = i1)
theorem TN.pos {b i1 : Nat} {x : Int32} (h : TN tp tn i b x i1) (hx : ¬ x < 0) : tkN tp tn i b = true ∧ x = nI (tnV tp tn i) ∧ i + 1 = i1 := by
  rcases h with q | q
  · exact q
  · rw [q.2.1] at hx
    exact absurd (by decide) hx
theorem TN.neg {b i1 : Nat} {x : Int32} (h : TN tp tn i b x i1) (hb : b ≤ 24) (hx : x < 0) : tkN tp tn i b = false ∧ x = -1 ∧ i = i1 := by
  rcases h with q | q
  · have := (tkN_ts q.1).2
    rw [q.2.1] at hx
    exact absurd hx (sgn_n (by omega))
  · exact q
def PX (w : ab_W) (tp : List Int32) (tn m : Nat) (tk : Int32) (A B C : List Int32) (p : PR) (v : Option Value) (w1 : ab_W) : Prop := v = some (.int (z01 p.ok)) ∧ TokW w1 tp tn tk (nI p.i) A B C ∧ RowW w1 12 p.s p.n ∧ p.i ≤ m ∧ ∀ j, (j < 12 ∨ (23 ≤ j ∧ j < 39) ∨ 44 ≤ j) → w1[j]? = w[j]?
set_option maxRecDepth 100000 in
set_option maxHeartbeats 4000000 in
theorem x_isWordHere (T : TokW w tp tn tk (nI i) A B C) (D : TkD tp tn m A B C) (hi : i ≤ m) {j : Nat} (hj : j < 17) : ab_M X kX4_isWordHere [.ref 39, .int (nI j)] w (some (.int (z01 (tkW tp tn i j)))) w := by
  have t0 := T.1
  have t1 := T.2.1
  have t2 := T.2.2.1
  have t3 := T.2.2.2.1
  have t4 := T.2.2.2.2.1
  have tl := T.2.2.2.2.2.1
  have al := T.2.2.2.2.2.2.2.1
  have bl := T.2.2.2.2.2.2.2.2.1
  have cl := T.2.2.2.2.2.2.2.2.2
  have hm := D.2.1
  obtain ⟨d1, d2, d3⟩ := D.1 i (by omega)
  have hle := ts_le (tp := tp) (tn := tn) (a := tP tp tn i)
  obtain ⟨V, hV⟩ : ∃ V, tsN tp tn (tP tp tn i) = V := ⟨_, rfl⟩
  rw [hV] at d1 hle
  show ab_G X kX4_isWordHere 0 [some (.ref 39), some (.int (nI j))] [] w _ _
  refine ab_s rfl ?_
  refine ab_gf rfl rfl rfl t0 rfl ?_
  refine ab_s rfl ?_
  refine ab_gf rfl rfl rfl t0 rfl ?_
  refine ab_c rfl (x_cell t2 (by omega) (j := i) (by omega)) ?_
  refine ab_t d1 ?_
  refine ab_n (st2 := [_]) rfl ?_
  refine ab_k (y := 1) rfl rfl ?_
  refine jN_ne (b := 1) rfl rfl rfl rfl (by omega) (by omega) (fun h12 => ?_) (fun h12 => ?_)
  · refine ab_k (y := 0) rfl rfl ?_
    exact ab_rb rfl rfl (Or.inl rfl) (by unfold tkW; rw [decide_eq_false (fun q => h12 (hV.symm.trans (tkI_lt (by omega))))]; rfl)
  · refine ab_s rfl ?_
    refine ab_gf rfl rfl rfl t0 rfl ?_
    refine ab_s rfl ?_
    refine ab_gf rfl rfl rfl t0 rfl ?_
    refine ab_c rfl (x_cell t3 (by omega) (j := i) (by omega)) ?_
    refine ab_t d2 ?_
    refine ab_n (st2 := [_]) rfl ?_
    refine ab_s rfl ?_
    refine j2_ne rfl rfl (fun h27 => ?_) (fun h27 => ?_)
    · refine ab_k (y := 0) rfl rfl ?_
      exact ab_rb rfl rfl (Or.inl rfl) (by unfold tkW; rw [decide_eq_false (fun q => h27 ((tv_W hj (hV.trans h12)).mpr q))]; rfl)
    · refine ab_k (y := 1) rfl rfl ?_
      refine ab_s rfl ?_
      exact ab_rb rfl rfl (Or.inr rfl) (by unfold tkW; rw [decide_eq_true ((tv_W hj (hV.trans h12)).mp h27)]; rfl)
set_option maxRecDepth 100000 in
set_option maxHeartbeats 4000000 in
theorem x_takeNumber (T : TokW w tp tn tk (nI i) A B C) (D : TkD tp tn m A B C) (hi : i ≤ m) {b : Nat} (hb : b ≤ 24) : ab_Q X kX4_takeNumber [.ref 39, .int (nI b)] w (fun v w1 => ∃ x i1, v = some (.int x) ∧ TokW w1 tp tn tk (nI i1) A B C ∧ (∀ j, j ≠ 39 → w1[j]? = w[j]?) ∧ TN tp tn i b x i1) := by
  have t0 := T.1
  have t1 := T.2.1
  have t2 := T.2.2.1
  have t3 := T.2.2.2.1
  have t4 := T.2.2.2.2.1
  have tl := T.2.2.2.2.2.1
  have al := T.2.2.2.2.2.2.2.1
  have bl := T.2.2.2.2.2.2.2.2.1
  have cl := T.2.2.2.2.2.2.2.2.2
  have hm := D.2.1
  obtain ⟨d1, d2, d3⟩ := D.1 i (by omega)
  have hle := ts_le (tp := tp) (tn := tn) (a := tP tp tn i)
  obtain ⟨V, hV⟩ : ∃ V, tsN tp tn (tP tp tn i) = V := ⟨_, rfl⟩
  rw [hV] at d1 hle
  show ab_H X kX4_takeNumber 0 [some (.ref 39), some (.int (nI b)), none] [] w _
  refine h_s rfl ?_
  refine h_gf rfl rfl rfl t0 rfl ?_
  refine h_s rfl ?_
  refine h_gf rfl rfl rfl t0 rfl ?_
  refine h_c rfl (x_cell t3 (by omega) (j := i) (by omega)) ?_
  refine h_n (st2 := [_]) rfl ?_
  iterate 2 refine h_s rfl ?_
  refine h_gf rfl rfl rfl t0 rfl ?_
  refine h_s rfl ?_
  refine h_gf rfl rfl rfl t0 rfl ?_
  refine h_c rfl (x_cell t2 (by omega) (j := i) (by omega)) ?_
  refine h_t d1 ?_
  refine h_n (st2 := [_]) rfl ?_
  refine h_k (y := 2) rfl rfl ?_
  refine hN_ne (b := 2) rfl rfl rfl rfl (by omega) (by omega) (fun h24 => ?_) (fun h24 => ?_)
  · refine h_k (y := (-1)) rfl rfl ?_
    exact h_ri rfl rfl ⟨_, _, rfl, T, fun _ _ => rfl, Or.inr ⟨by unfold tkN; rw [decide_eq_false (fun q => h24 (hV.symm.trans q)), Bool.false_and], rfl, rfl⟩⟩
  · iterate 2 refine h_s rfl ?_
    refine h_c rfl (x_isBelow _ b (by omega)) ?_
    refine h_n (st2 := [_]) rfl ?_
    refine hz_ne rfl rfl (fun h32 => ?_) (fun h32 => ?_)
    · iterate 2 refine h_s rfl ?_
      refine h_gf rfl rfl rfl t0 rfl ?_
      refine h_k (y := 1) rfl rfl ?_
      refine h_Nadd (b := 1) rfl rfl rfl ?_
      refine h_pf rfl rfl t0 rfl (fun w5 e5 f5 => ?_)
      refine h_s rfl ?_
      obtain ⟨e1, e2⟩ := tv_2 (hV.trans h24)
      rw [d2, e1, inN_nI (by omega)] at h32
      exact h_ri rfl rfl ⟨_, _, rfl, T.hr' e5 f5, f5, Or.inl ⟨by unfold tkN; rw [decide_eq_true (hV.trans h24), h32]; rfl, by rw [d2, e1], rfl⟩⟩
    · refine h_k (y := (-1)) rfl rfl ?_
      obtain ⟨e1, e2⟩ := tv_2 (hV.trans h24)
      rw [d2, e1, inN_nI (by omega)] at h32
      exact h_ri rfl rfl ⟨_, _, rfl, T, fun _ _ => rfl, Or.inr ⟨by unfold tkN; rw [h32, Bool.and_false], rfl, rfl⟩⟩
theorem st_l {h : Nat} (hh : h < 8) (h0 : ¬ h = 0) : nI h - 1 + 2 * 0 = nI (h - 1) := (show ∀ h, h < 8 → ¬ h = 0 → nI h - 1 + 2 * 0 = nI (h - 1) by decide) h hh h0
theorem st_r {h : Nat} (hh : h < 8) : nI h - 1 + 2 * 1 = nI (h + 1) := (show ∀ h, h < 8 → nI h - 1 + 2 * 1 = nI (h + 1) by decide) h hh
set_option maxRecDepth 100000 in
set_option maxHeartbeats 4000000 in
theorem x_readStair (T : TokW w tp tn tk (nI i) A B C) (D : TkD tp tn m A B C) (hi : i ≤ m) (XD : RowW w 12 s n) {h : Nat} (hh : h < n) : ab_Q X kX4_readStair [.ref 39, .ref (12 + 3 + h), .int (nI h)] w (PX w tp tn m tk A B C (rdStair tp tn h i s n)) := by
  have t0 := T.1
  have t1 := T.2.1
  have t2 := T.2.2.1
  have t3 := T.2.2.2.1
  have t4 := T.2.2.2.2.1
  have tl := T.2.2.2.2.2.1
  have al := T.2.2.2.2.2.2.2.1
  have bl := T.2.2.2.2.2.2.2.2.1
  have cl := T.2.2.2.2.2.2.2.2.2
  have hm := D.2.1
  have hn : n ≤ 8 := XD.2.2.2.2.2.2.2
  have F : ∀ j, (j < 12 ∨ (23 ≤ j ∧ j < 39) ∨ 44 ≤ j) → w[j]? = w[j]? := fun _ _ => rfl
  show ab_H X kX4_readStair 0 [some (.ref 39), some (.ref (12 + 3 + h)), some (.int (nI h)), none] [] w _
  refine h_s rfl ?_
  refine h_k (y := 7) rfl rfl ?_
  refine h_cv rfl rfl rfl t0 rfl rfl (x_isWordHere T D (hi) (j := 7) (by decide)) ?_
  refine h_n (st2 := [_]) rfl ?_
  refine hz_ne rfl rfl (fun h6 => ?_) (fun h6 => ?_)
  · refine h_s rfl ?_
    refine h_k (y := 7) rfl rfl ?_
    refine h_cv rfl rfl rfl t0 rfl rfl (x_isWordHere T D (hi) (j := 7) (by decide)) ?_
    refine h_n (st2 := [_]) rfl ?_
    refine hz_eq rfl rfl (fun h26 => absurd (show (true = false) from (show _ = true from h6).symm.trans h26) (by decide)) (fun h26 => ?_)
    refine h_k (y := 0) rfl rfl ?_
    iterate 4 refine h_s rfl ?_
    refine h_c rfl (x_isStair h (by omega) 0) ?_
    refine h_n (st2 := [_]) rfl ?_
    refine hz_ne rfl rfl (fun h40 => ?_) (fun h40 => ?_)
    · iterate 2 refine h_s rfl ?_
      refine h_gf rfl rfl rfl t0 rfl ?_
      refine h_k (y := 1) rfl rfl ?_
      refine h_Nadd (b := 1) rfl rfl rfl ?_
      refine h_pf rfl rfl t0 rfl (fun w5 e5 f5 => ?_)
      have T := T.hr' e5 f5
      have XD := XD.fr (w1 := w5) (fun j _ _ => f5 j (by omega))
      have F := fun j hj => (f5 j (by omega)).trans (F j hj)
      have t0 := T.1
      have t1 := T.2.1
      have t2 := T.2.2.1
      have t3 := T.2.2.2.1
      have t4 := T.2.2.2.2.1
      have tl := T.2.2.2.2.2.1
      have al := T.2.2.2.2.2.2.2.1
      have bl := T.2.2.2.2.2.2.2.2.1
      have cl := T.2.2.2.2.2.2.2.2.2
      iterate 2 refine h_s rfl ?_
      refine h_k (y := 1) rfl rfl ?_
      refine h_s rfl ?_
      refine h_k (y := 2) rfl rfl ?_
      refine h_s rfl ?_
      refine h_s rfl ?_
      refine h_t (y := 0) rfl ?_
      refine h_s rfl ?_
      refine h_pf rfl rfl (XD.2.2.2.1 _ hh) rfl (fun w6 e6 f6 => ?_)
      have XD := XD.setf (j := 1) hh (by decide) e6 f6
      have T := T.fr (w1 := w6) (fun j _ _ => f6 j (by omega))
      have F := fun j hj => (f6 j (by omega)).trans (F j hj)
      have t0 := T.1
      have t1 := T.2.1
      have t2 := T.2.2.1
      have t3 := T.2.2.2.1
      have t4 := T.2.2.2.2.1
      have tl := T.2.2.2.2.2.1
      have al := T.2.2.2.2.2.2.2.1
      have bl := T.2.2.2.2.2.2.2.2.1
      have cl := T.2.2.2.2.2.2.2.2.2
      refine h_k (y := 1) rfl rfl ?_
      have hz : ¬ h = 0 := fun q => by rw [q] at h40; exact absurd h40 (by decide)
      have ep := show rdStair tp tn h i s n = _ from by
        unfold rdStair
        rw [if_pos h6, if_neg hz]
      rw [ep]
      exact h_ri rfl rfl ⟨rfl, T, (by rw [← st_l (by omega) hz]; exact XD), D.ltW hi (by decide) h6, F⟩
    · refine h_k (y := 0) rfl rfl ?_
      have hz : h = 0 := by
        have := (show ∀ h, h < 8 → wayS h 0 = false → h = 0 from by decide) h (by omega) h40
        exact this
      have ep := show rdStair tp tn h i s n = _ from by
        unfold rdStair
        rw [if_pos h6, if_pos hz]
      rw [ep]
      exact h_ri rfl rfl ⟨rfl, T, XD, hi, F⟩
  · refine h_s rfl ?_
    refine h_k (y := 8) rfl rfl ?_
    refine h_cv rfl rfl rfl t0 rfl rfl (x_isWordHere T D (hi) (j := 8) (by decide)) ?_
    refine h_n (st2 := [_]) rfl ?_
    refine hz_ne rfl rfl (fun h15 => ?_) (fun h15 => ?_)
    · refine h_s rfl ?_
      refine h_k (y := 7) rfl rfl ?_
      refine h_cv rfl rfl rfl t0 rfl rfl (x_isWordHere T D (hi) (j := 7) (by decide)) ?_
      refine h_n (st2 := [_]) rfl ?_
      refine hz_eq rfl rfl (fun h26 => ?_) (fun h26 => absurd (show (true = false) from h26.symm.trans (show _ = false from h6)) (by decide))
      refine h_k (y := 1) rfl rfl ?_
      iterate 3 refine h_s rfl ?_
      refine h_c rfl (x_isStair h (by omega) 1) ?_
      refine h_n (st2 := [_]) rfl ?_
      refine hz_ne rfl rfl (fun h40 => ?_) (fun h40 => ?_)
      · iterate 2 refine h_s rfl ?_
        refine h_gf rfl rfl rfl t0 rfl ?_
        refine h_k (y := 1) rfl rfl ?_
        refine h_Nadd (b := 1) rfl rfl rfl ?_
        refine h_pf rfl rfl t0 rfl (fun w5 e5 f5 => ?_)
        have T := T.hr' e5 f5
        have XD := XD.fr (w1 := w5) (fun j _ _ => f5 j (by omega))
        have F := fun j hj => (f5 j (by omega)).trans (F j hj)
        have t0 := T.1
        have t1 := T.2.1
        have t2 := T.2.2.1
        have t3 := T.2.2.2.1
        have t4 := T.2.2.2.2.1
        have tl := T.2.2.2.2.2.1
        have al := T.2.2.2.2.2.2.2.1
        have bl := T.2.2.2.2.2.2.2.2.1
        have cl := T.2.2.2.2.2.2.2.2.2
        iterate 2 refine h_s rfl ?_
        refine h_k (y := 1) rfl rfl ?_
        refine h_s rfl ?_
        refine h_k (y := 2) rfl rfl ?_
        refine h_s rfl ?_
        refine h_s rfl ?_
        refine h_t (y := 2) rfl ?_
        refine h_s rfl ?_
        refine h_pf rfl rfl (XD.2.2.2.1 _ hh) rfl (fun w6 e6 f6 => ?_)
        have XD := XD.setf (j := 1) hh (by decide) e6 f6
        have T := T.fr (w1 := w6) (fun j _ _ => f6 j (by omega))
        have F := fun j hj => (f6 j (by omega)).trans (F j hj)
        have t0 := T.1
        have t1 := T.2.1
        have t2 := T.2.2.1
        have t3 := T.2.2.2.1
        have t4 := T.2.2.2.2.1
        have tl := T.2.2.2.2.2.1
        have al := T.2.2.2.2.2.2.2.1
        have bl := T.2.2.2.2.2.2.2.2.1
        have cl := T.2.2.2.2.2.2.2.2.2
        refine h_k (y := 1) rfl rfl ?_
        have hz : ¬ h = 7 := fun q => by rw [q] at h40; exact absurd h40 (by decide)
        have ep := show rdStair tp tn h i s n = _ from by
          unfold rdStair
          rw [if_neg (fun q => absurd (h6.symm.trans q) (by decide)), if_pos h15, if_neg hz]
        rw [ep]
        exact h_ri rfl rfl ⟨rfl, T, (by rw [← st_r (by omega)]; exact XD), D.ltW hi (by decide) h15, F⟩
      · refine h_k (y := 0) rfl rfl ?_
        have hz : h = 7 := by
          have := (show ∀ h, h < 8 → wayS h 1 = false → h = 7 from by decide) h (by omega) h40
          exact this
        have ep := show rdStair tp tn h i s n = _ from by
          unfold rdStair
          rw [if_neg (fun q => absurd (h6.symm.trans q) (by decide)), if_pos h15, if_pos hz]
        rw [ep]
        exact h_ri rfl rfl ⟨rfl, T, XD, hi, F⟩
    · refine h_k (y := 1) rfl rfl ?_
      have ep := show rdStair tp tn h i s n = _ from by
        unfold rdStair
        rw [if_neg (fun q => absurd (h6.symm.trans q) (by decide)), if_neg (fun q => absurd (h15.symm.trans q) (by decide))]
      rw [ep]
      exact h_ri rfl rfl ⟨rfl, T, XD, hi, F⟩
set_option maxRecDepth 100000 in
set_option maxHeartbeats 4000000 in
theorem x_readHours (T : TokW w tp tn tk (nI i) A B C) (D : TkD tp tn m A B C) (hi : i ≤ m) (XD : RowW w 12 s n) {h : Nat} (hh : h < n) : ab_Q X kX4_readHours [.ref 39, .ref (12 + 3 + h)] w (PX w tp tn m tk A B C (rdHours tp tn h i s n)) := by
  have t0 := T.1
  have t1 := T.2.1
  have t2 := T.2.2.1
  have t3 := T.2.2.2.1
  have t4 := T.2.2.2.2.1
  have tl := T.2.2.2.2.2.1
  have al := T.2.2.2.2.2.2.2.1
  have bl := T.2.2.2.2.2.2.2.2.1
  have cl := T.2.2.2.2.2.2.2.2.2
  have hm := D.2.1
  have hn : n ≤ 8 := XD.2.2.2.2.2.2.2
  have F : ∀ j, (j < 12 ∨ (23 ≤ j ∧ j < 39) ∨ 44 ≤ j) → w[j]? = w[j]? := fun _ _ => rfl
  show ab_H X kX4_readHours 0 [some (.ref 39), some (.ref (12 + 3 + h)), none, none] [] w _
  refine h_s rfl ?_
  refine h_k (y := 9) rfl rfl ?_
  refine h_cv rfl rfl rfl t0 rfl rfl (x_isWordHere T D (hi) (j := 9) (by decide)) ?_
  refine h_n (st2 := [_]) rfl ?_
  refine hz_ne rfl rfl (fun h6 => ?_) (fun h6 => ?_)
  · iterate 2 refine h_s rfl ?_
    refine h_gf rfl rfl rfl t0 rfl ?_
    refine h_k (y := 1) rfl rfl ?_
    refine h_Nadd (b := 1) rfl rfl rfl ?_
    refine h_pf rfl rfl t0 rfl (fun w5 e5 f5 => ?_)
    have T := T.hr' e5 f5
    have XD := XD.fr (w1 := w5) (fun j _ _ => f5 j (by omega))
    have F := fun j hj => (f5 j (by omega)).trans (F j hj)
    have t0 := T.1
    have t1 := T.2.1
    have t2 := T.2.2.1
    have t3 := T.2.2.2.1
    have t4 := T.2.2.2.2.1
    have tl := T.2.2.2.2.2.1
    have al := T.2.2.2.2.2.2.2.1
    have bl := T.2.2.2.2.2.2.2.2.1
    have cl := T.2.2.2.2.2.2.2.2.2
    refine h_s rfl ?_
    refine h_k (y := 24) rfl rfl ?_
    refine hq_v rfl rfl rfl t0 rfl rfl (x_takeNumber T D (D.ltW hi (by decide) h6) (b := 24) (by omega)) (fun v1 w1 q1 => ?_)
    obtain ⟨y1, i1, rfl, T, g1, N1⟩ := q1
    have XD := XD.fr (w1 := w1) (fun j _ _ => g1 j (by omega))
    have F := fun j hj => (g1 j (by omega)).trans (F j hj)
    have t0 := T.1
    have t1 := T.2.1
    have t2 := T.2.2.1
    have t3 := T.2.2.2.1
    have t4 := T.2.2.2.2.1
    have tl := T.2.2.2.2.2.1
    have al := T.2.2.2.2.2.2.2.1
    have bl := T.2.2.2.2.2.2.2.2.1
    have cl := T.2.2.2.2.2.2.2.2.2
    refine h_n (st2 := [_]) rfl ?_
    iterate 2 refine h_s rfl ?_
    refine h1_lt rfl rfl (fun h29 => ?_) (fun h29 => ?_)
    · refine h_k (y := 0) rfl rfl ?_
      obtain ⟨k1, rfl, rfl⟩ := N1.neg (by omega) h29
      have ep := show rdHours tp tn h i s n = _ from by
        unfold rdHours
        rw [if_pos h6, if_neg (fun q => absurd (k1.symm.trans q) (by decide))]
      rw [ep]
      exact h_ri rfl rfl ⟨rfl, T, XD, D.ltW hi (by decide) h6, F⟩
    · refine h_s rfl ?_
      refine h_k (y := 10) rfl rfl ?_
      obtain ⟨k1, rfl, rfl⟩ := N1.pos h29
      refine h_cv rfl rfl rfl t0 rfl rfl (x_isWordHere T D (D.ltN (D.ltW hi (by decide) h6) k1) (j := 10) (by decide)) ?_
      refine h_n (st2 := [_]) rfl ?_
      refine hz_ne rfl rfl (fun h38 => ?_) (fun h38 => ?_)
      · iterate 2 refine h_s rfl ?_
        refine h_gf rfl rfl rfl t0 rfl ?_
        refine h_k (y := 1) rfl rfl ?_
        refine h_Nadd (b := 1) rfl rfl rfl ?_
        refine h_pf rfl rfl t0 rfl (fun w5 e5 f5 => ?_)
        have T := T.hr' e5 f5
        have XD := XD.fr (w1 := w5) (fun j _ _ => f5 j (by omega))
        have F := fun j hj => (f5 j (by omega)).trans (F j hj)
        have t0 := T.1
        have t1 := T.2.1
        have t2 := T.2.2.1
        have t3 := T.2.2.2.1
        have t4 := T.2.2.2.2.1
        have tl := T.2.2.2.2.2.1
        have al := T.2.2.2.2.2.2.2.1
        have bl := T.2.2.2.2.2.2.2.2.1
        have cl := T.2.2.2.2.2.2.2.2.2
        refine h_s rfl ?_
        refine h_k (y := 24) rfl rfl ?_
        refine hq_v rfl rfl rfl t0 rfl rfl (x_takeNumber T D (D.ltW (D.ltN (D.ltW hi (by decide) h6) k1) (by decide) h38) (b := 24) (by omega)) (fun v2 w2 q2 => ?_)
        obtain ⟨y2, i2, rfl, T, g2, N2⟩ := q2
        have XD := XD.fr (w1 := w2) (fun j _ _ => g2 j (by omega))
        have F := fun j hj => (g2 j (by omega)).trans (F j hj)
        have t0 := T.1
        have t1 := T.2.1
        have t2 := T.2.2.1
        have t3 := T.2.2.2.1
        have t4 := T.2.2.2.2.1
        have tl := T.2.2.2.2.2.1
        have al := T.2.2.2.2.2.2.2.1
        have bl := T.2.2.2.2.2.2.2.2.1
        have cl := T.2.2.2.2.2.2.2.2.2
        refine h_n (st2 := [_]) rfl ?_
        iterate 2 refine h_s rfl ?_
        refine h1_ge rfl rfl (fun h61 => ?_) (fun h61 => ?_)
        · obtain ⟨k2, rfl, rfl⟩ := N2.pos (Int32.not_lt.mpr h61)
          refine h_s rfl ?_
          refine h_s rfl ?_
          refine h_pf rfl rfl (XD.2.2.2.1 _ hh) rfl (fun w6 e6 f6 => ?_)
          have XD := XD.setf (j := 3) hh (by decide) e6 f6
          have T := T.fr (w1 := w6) (fun j _ _ => f6 j (by omega))
          have F := fun j hj => (f6 j (by omega)).trans (F j hj)
          have t0 := T.1
          have t1 := T.2.1
          have t2 := T.2.2.1
          have t3 := T.2.2.2.1
          have t4 := T.2.2.2.2.1
          have tl := T.2.2.2.2.2.1
          have al := T.2.2.2.2.2.2.2.1
          have bl := T.2.2.2.2.2.2.2.2.1
          have cl := T.2.2.2.2.2.2.2.2.2
          iterate 2 refine h_s rfl ?_
          refine h_pf rfl rfl (XD.2.2.2.1 _ hh) rfl (fun w6 e6 f6 => ?_)
          have XD := XD.setf (j := 4) hh (by decide) e6 f6
          have T := T.fr (w1 := w6) (fun j _ _ => f6 j (by omega))
          have F := fun j hj => (f6 j (by omega)).trans (F j hj)
          have t0 := T.1
          have t1 := T.2.1
          have t2 := T.2.2.1
          have t3 := T.2.2.2.1
          have t4 := T.2.2.2.2.1
          have tl := T.2.2.2.2.2.1
          have al := T.2.2.2.2.2.2.2.1
          have bl := T.2.2.2.2.2.2.2.2.1
          have cl := T.2.2.2.2.2.2.2.2.2
          refine h_k (y := 1) rfl rfl ?_
          have ep := show rdHours tp tn h i s n = _ from by
            unfold rdHours
            rw [if_pos h6, if_pos k1, if_pos h38, if_pos k2]
          rw [ep]
          exact h_ri rfl rfl ⟨rfl, T, XD, D.ltN (D.ltW (D.ltN (D.ltW hi (by decide) h6) k1) (by decide) h38) k2, F⟩
        · refine h_k (y := 0) rfl rfl ?_
          obtain ⟨k2, rfl, rfl⟩ := N2.neg (by omega) (Int32.not_le.mp h61)
          have ep := show rdHours tp tn h i s n = _ from by
            unfold rdHours
            rw [if_pos h6, if_pos k1, if_pos h38, if_neg (fun q => absurd (k2.symm.trans q) (by decide))]
          rw [ep]
          exact h_ri rfl rfl ⟨rfl, T, XD, D.ltW (D.ltN (D.ltW hi (by decide) h6) k1) (by decide) h38, F⟩
      · refine h_k (y := 0) rfl rfl ?_
        have ep := show rdHours tp tn h i s n = _ from by
          unfold rdHours
          rw [if_pos h6, if_pos k1, if_neg (fun q => absurd (h38.symm.trans q) (by decide))]
        rw [ep]
        exact h_ri rfl rfl ⟨rfl, T, XD, D.ltN (D.ltW hi (by decide) h6) k1, F⟩
  · refine h_k (y := 1) rfl rfl ?_
    have ep := show rdHours tp tn h i s n = _ from by
      unfold rdHours
      rw [if_neg (fun q => absurd (h6.symm.trans q) (by decide))]
    rw [ep]
    exact h_ri rfl rfl ⟨rfl, T, XD, hi, F⟩
set_option maxRecDepth 100000 in
set_option maxHeartbeats 4000000 in
theorem x_readSleepers (T : TokW w tp tn tk (nI i) A B C) (D : TkD tp tn m A B C) (hi : i ≤ m) (XD : RowW w 12 s n) {h : Nat} (hh : h < n) : ab_Q X kX4_readSleepers [.ref 39, .ref (12 + 3 + h)] w (PX w tp tn m tk A B C (rdSleep tp tn h i s n)) := by
  have t0 := T.1
  have t1 := T.2.1
  have t2 := T.2.2.1
  have t3 := T.2.2.2.1
  have t4 := T.2.2.2.2.1
  have tl := T.2.2.2.2.2.1
  have al := T.2.2.2.2.2.2.2.1
  have bl := T.2.2.2.2.2.2.2.2.1
  have cl := T.2.2.2.2.2.2.2.2.2
  have hm := D.2.1
  have hn : n ≤ 8 := XD.2.2.2.2.2.2.2
  have F : ∀ j, (j < 12 ∨ (23 ≤ j ∧ j < 39) ∨ 44 ≤ j) → w[j]? = w[j]? := fun _ _ => rfl
  show ab_H X kX4_readSleepers 0 [some (.ref 39), some (.ref (12 + 3 + h)), none] [] w _
  refine h_s rfl ?_
  refine h_k (y := 11) rfl rfl ?_
  refine h_cv rfl rfl rfl t0 rfl rfl (x_isWordHere T D (hi) (j := 11) (by decide)) ?_
  refine h_n (st2 := [_]) rfl ?_
  refine hz_ne rfl rfl (fun h6 => ?_) (fun h6 => ?_)
  · iterate 2 refine h_s rfl ?_
    refine h_gf rfl rfl rfl t0 rfl ?_
    refine h_k (y := 1) rfl rfl ?_
    refine h_Nadd (b := 1) rfl rfl rfl ?_
    refine h_pf rfl rfl t0 rfl (fun w5 e5 f5 => ?_)
    have T := T.hr' e5 f5
    have XD := XD.fr (w1 := w5) (fun j _ _ => f5 j (by omega))
    have F := fun j hj => (f5 j (by omega)).trans (F j hj)
    have t0 := T.1
    have t1 := T.2.1
    have t2 := T.2.2.1
    have t3 := T.2.2.2.1
    have t4 := T.2.2.2.2.1
    have tl := T.2.2.2.2.2.1
    have al := T.2.2.2.2.2.2.2.1
    have bl := T.2.2.2.2.2.2.2.2.1
    have cl := T.2.2.2.2.2.2.2.2.2
    refine h_s rfl ?_
    refine h_k (y := 10) rfl rfl ?_
    refine hq_v rfl rfl rfl t0 rfl rfl (x_takeNumber T D (D.ltW hi (by decide) h6) (b := 10) (by omega)) (fun v1 w1 q1 => ?_)
    obtain ⟨y1, i1, rfl, T, g1, N1⟩ := q1
    have XD := XD.fr (w1 := w1) (fun j _ _ => g1 j (by omega))
    have F := fun j hj => (g1 j (by omega)).trans (F j hj)
    have t0 := T.1
    have t1 := T.2.1
    have t2 := T.2.2.1
    have t3 := T.2.2.2.1
    have t4 := T.2.2.2.2.1
    have tl := T.2.2.2.2.2.1
    have al := T.2.2.2.2.2.2.2.1
    have bl := T.2.2.2.2.2.2.2.2.1
    have cl := T.2.2.2.2.2.2.2.2.2
    refine h_n (st2 := [_]) rfl ?_
    iterate 2 refine h_s rfl ?_
    refine h1_ge rfl rfl (fun h29 => ?_) (fun h29 => ?_)
    · obtain ⟨k1, rfl, rfl⟩ := N1.pos (Int32.not_lt.mpr h29)
      refine h_s rfl ?_
      refine h_s rfl ?_
      refine h_pf rfl rfl (XD.2.2.2.1 _ hh) rfl (fun w6 e6 f6 => ?_)
      have XD := XD.setf (j := 6) hh (by decide) e6 f6
      have T := T.fr (w1 := w6) (fun j _ _ => f6 j (by omega))
      have F := fun j hj => (f6 j (by omega)).trans (F j hj)
      have t0 := T.1
      have t1 := T.2.1
      have t2 := T.2.2.1
      have t3 := T.2.2.2.1
      have t4 := T.2.2.2.2.1
      have tl := T.2.2.2.2.2.1
      have al := T.2.2.2.2.2.2.2.1
      have bl := T.2.2.2.2.2.2.2.2.1
      have cl := T.2.2.2.2.2.2.2.2.2
      refine h_k (y := 1) rfl rfl ?_
      have ep := show rdSleep tp tn h i s n = _ from by
        unfold rdSleep
        rw [if_pos h6, if_pos k1]
      rw [ep]
      exact h_ri rfl rfl ⟨rfl, T, XD, D.ltN (D.ltW hi (by decide) h6) k1, F⟩
    · refine h_k (y := 0) rfl rfl ?_
      obtain ⟨k1, rfl, rfl⟩ := N1.neg (by omega) (Int32.not_le.mp h29)
      have ep := show rdSleep tp tn h i s n = _ from by
        unfold rdSleep
        rw [if_pos h6, if_neg (fun q => absurd (k1.symm.trans q) (by decide))]
      rw [ep]
      exact h_ri rfl rfl ⟨rfl, T, XD, D.ltW hi (by decide) h6, F⟩
  · refine h_k (y := 1) rfl rfl ?_
    have ep := show rdSleep tp tn h i s n = _ from by
      unfold rdSleep
      rw [if_neg (fun q => absurd (h6.symm.trans q) (by decide))]
    rw [ep]
    exact h_ri rfl rfl ⟨rfl, T, XD, hi, F⟩
set_option maxRecDepth 100000 in
set_option maxHeartbeats 4000000 in
theorem x_readDoor (T : TokW w tp tn tk (nI i) A B C) (D : TkD tp tn m A B C) (hi : i ≤ m) (XD : RowW w 12 s n)  : ab_Q X kX4_readDoor [.ref 39, .ref 12] w (PX w tp tn m tk A B C (rdDoor tp tn i s n)) := by
  have t0 := T.1
  have t1 := T.2.1
  have t2 := T.2.2.1
  have t3 := T.2.2.2.1
  have t4 := T.2.2.2.2.1
  have tl := T.2.2.2.2.2.1
  have al := T.2.2.2.2.2.2.2.1
  have bl := T.2.2.2.2.2.2.2.2.1
  have cl := T.2.2.2.2.2.2.2.2.2
  have hm := D.2.1
  have hn : n ≤ 8 := XD.2.2.2.2.2.2.2
  have F : ∀ j, (j < 12 ∨ (23 ≤ j ∧ j < 39) ∨ 44 ≤ j) → w[j]? = w[j]? := fun _ _ => rfl
  show ab_H X kX4_readDoor 0 [some (.ref 39), some (.ref 12), none] [] w _
  refine h_s rfl ?_
  refine h_k (y := 14) rfl rfl ?_
  refine hq_v rfl rfl rfl t0 rfl rfl (x_takeNumber T D (hi) (b := 14) (by omega)) (fun v1 w1 q1 => ?_)
  obtain ⟨y1, i1, rfl, T, g1, N1⟩ := q1
  have XD := XD.fr (w1 := w1) (fun j _ _ => g1 j (by omega))
  have F := fun j hj => (g1 j (by omega)).trans (F j hj)
  have t0 := T.1
  have t1 := T.2.1
  have t2 := T.2.2.1
  have t3 := T.2.2.2.1
  have t4 := T.2.2.2.2.1
  have tl := T.2.2.2.2.2.1
  have al := T.2.2.2.2.2.2.2.1
  have bl := T.2.2.2.2.2.2.2.2.1
  have cl := T.2.2.2.2.2.2.2.2.2
  refine h_n (st2 := [_]) rfl ?_
  iterate 2 refine h_s rfl ?_
  refine h1_ge rfl rfl (fun h8 => ?_) (fun h8 => ?_)
  · obtain ⟨k1, rfl, rfl⟩ := N1.pos (Int32.not_lt.mpr h8)
    refine h_s rfl ?_
    refine h_s rfl ?_
    refine h_k (y := 1) rfl rfl ?_
    refine hq_v rfl rfl rfl XD.1 rfl rfl (x_setDoor XD (tkN_ts k1).2 true) (fun v2 w2 q2 => ?_)
    obtain ⟨rfl, XD, g2⟩ := q2
    have T := T.fr (w1 := w2) (fun j _ _ => g2 j (by omega))
    have F := fun j hj => (g2 j (by omega)).trans (F j hj)
    refine h_n (st2 := []) rfl ?_
    refine h_k (y := 1) rfl rfl ?_
    have ep := show rdDoor tp tn i s n = _ from by
      unfold rdDoor
      rw [if_pos k1]
    rw [ep]
    exact h_ri rfl rfl ⟨rfl, T, XD, D.ltN hi k1, F⟩
  · refine h_k (y := 0) rfl rfl ?_
    obtain ⟨k1, rfl, rfl⟩ := N1.neg (by omega) (Int32.not_le.mp h8)
    have ep := show rdDoor tp tn i s n = _ from by
      unfold rdDoor
      rw [if_neg (fun q => absurd (k1.symm.trans q) (by decide))]
    rw [ep]
    exact h_ri rfl rfl ⟨rfl, T, XD, hi, F⟩
set_option maxRecDepth 100000 in
set_option maxHeartbeats 4000000 in
theorem x_readBed (T : TokW w tp tn tk (nI i) A B C) (D : TkD tp tn m A B C) (hi : i ≤ m) (XD : RowW w 12 s n)  : ab_Q X kX4_readBed [.ref 39, .ref 12] w (PX w tp tn m tk A B C (rdBed tp tn i s n)) := by
  have t0 := T.1
  have t1 := T.2.1
  have t2 := T.2.2.1
  have t3 := T.2.2.2.1
  have t4 := T.2.2.2.2.1
  have tl := T.2.2.2.2.2.1
  have al := T.2.2.2.2.2.2.2.1
  have bl := T.2.2.2.2.2.2.2.2.1
  have cl := T.2.2.2.2.2.2.2.2.2
  have hm := D.2.1
  have hn : n ≤ 8 := XD.2.2.2.2.2.2.2
  have F : ∀ j, (j < 12 ∨ (23 ≤ j ∧ j < 39) ∨ 44 ≤ j) → w[j]? = w[j]? := fun _ _ => rfl
  show ab_H X kX4_readBed 0 [some (.ref 39), some (.ref 12), none, none] [] w _
  iterate 3 refine h_s rfl ?_
  refine h_gf rfl rfl rfl XD.1 rfl ?_
  refine hq_v rfl rfl rfl t0 rfl rfl (x_takeNumber T D (hi) (b := n) (by omega)) (fun v1 w1 q1 => ?_)
  obtain ⟨y1, i1, rfl, T, g1, N1⟩ := q1
  have XD := XD.fr (w1 := w1) (fun j _ _ => g1 j (by omega))
  have F := fun j hj => (g1 j (by omega)).trans (F j hj)
  have t0 := T.1
  have t1 := T.2.1
  have t2 := T.2.2.1
  have t3 := T.2.2.2.1
  have t4 := T.2.2.2.2.1
  have tl := T.2.2.2.2.2.1
  have al := T.2.2.2.2.2.2.2.1
  have bl := T.2.2.2.2.2.2.2.2.1
  have cl := T.2.2.2.2.2.2.2.2.2
  refine h_n (st2 := [_, _]) rfl ?_
  rcases N1 with ⟨k1, rfl, rfl⟩ | ⟨k1, rfl, rfl⟩
  · have hh := (tkN_ts k1).2
    refine h_cv rfl rfl rfl XD.1 rfl rfl (x_at XD hh) ?_
    refine h_n (st2 := [_]) rfl ?_
    iterate 4 refine h_s rfl ?_
    refine h_k (y := 16) rfl rfl ?_
    refine h_cv rfl rfl rfl t0 rfl rfl (x_isWordHere T D (D.ltN hi k1) (j := 16) (by decide)) ?_
    refine h_n (st2 := [_]) rfl ?_
    refine hz_ne rfl rfl (fun h23 => ?_) (fun h23 => ?_)
    · iterate 2 refine h_s rfl ?_
      refine h_gf rfl rfl rfl t0 rfl ?_
      refine h_k (y := 1) rfl rfl ?_
      refine h_Nadd (b := 1) rfl rfl rfl ?_
      refine h_pf rfl rfl t0 rfl (fun w5 e5 f5 => ?_)
      have T := T.hr' e5 f5
      have XD := XD.fr (w1 := w5) (fun j _ _ => f5 j (by omega))
      have F := fun j hj => (f5 j (by omega)).trans (F j hj)
      have t0 := T.1
      have t1 := T.2.1
      have t2 := T.2.2.1
      have t3 := T.2.2.2.1
      have t4 := T.2.2.2.2.1
      have tl := T.2.2.2.2.2.1
      have al := T.2.2.2.2.2.2.2.1
      have bl := T.2.2.2.2.2.2.2.2.1
      have cl := T.2.2.2.2.2.2.2.2.2
      iterate 2 refine h_s rfl ?_
      refine h_gf rfl rfl rfl XD.1 rfl ?_
      refine hq_v rfl rfl rfl t0 rfl rfl (x_takeNumber T D (D.ltW (D.ltN hi k1) (by decide) h23) (b := n) (by omega)) (fun v2 w2 q2 => ?_)
      obtain ⟨y2, i2, rfl, T, g2, N2⟩ := q2
      have XD := XD.fr (w1 := w2) (fun j _ _ => g2 j (by omega))
      have F := fun j hj => (g2 j (by omega)).trans (F j hj)
      have t0 := T.1
      have t1 := T.2.1
      have t2 := T.2.2.1
      have t3 := T.2.2.2.1
      have t4 := T.2.2.2.2.1
      have tl := T.2.2.2.2.2.1
      have al := T.2.2.2.2.2.2.2.1
      have bl := T.2.2.2.2.2.2.2.2.1
      have cl := T.2.2.2.2.2.2.2.2.2
      refine h_n (st2 := [_]) rfl ?_
      iterate 2 refine h_s rfl ?_
      refine h1_ge rfl rfl (fun h48 => ?_) (fun h48 => ?_)
      · obtain ⟨k2, rfl, rfl⟩ := N2.pos (Int32.not_lt.mpr h48)
        refine h_s rfl ?_
        refine h_s rfl ?_
        refine h_pf rfl rfl (XD.2.2.2.1 _ hh) rfl (fun w6 e6 f6 => ?_)
        have XD := XD.setf (j := 7) hh (by decide) e6 f6
        have T := T.fr (w1 := w6) (fun j _ _ => f6 j (by omega))
        have F := fun j hj => (f6 j (by omega)).trans (F j hj)
        have t0 := T.1
        have t1 := T.2.1
        have t2 := T.2.2.1
        have t3 := T.2.2.2.1
        have t4 := T.2.2.2.2.1
        have tl := T.2.2.2.2.2.1
        have al := T.2.2.2.2.2.2.2.1
        have bl := T.2.2.2.2.2.2.2.2.1
        have cl := T.2.2.2.2.2.2.2.2.2
        refine h_k (y := 1) rfl rfl ?_
        have ep := show rdBed tp tn i s n = _ from by
          unfold rdBed
          rw [if_pos k1, if_pos h23, if_pos k2]
        rw [ep]
        exact h_ri rfl rfl ⟨rfl, T, XD, D.ltN (D.ltW (D.ltN hi k1) (by decide) h23) k2, F⟩
      · refine h_k (y := 0) rfl rfl ?_
        obtain ⟨k2, rfl, rfl⟩ := N2.neg (by omega) (Int32.not_le.mp h48)
        have ep := show rdBed tp tn i s n = _ from by
          unfold rdBed
          rw [if_pos k1, if_pos h23, if_neg (fun q => absurd (k2.symm.trans q) (by decide))]
        rw [ep]
        exact h_ri rfl rfl ⟨rfl, T, XD, D.ltW (D.ltN hi k1) (by decide) h23, F⟩
    · refine h_k (y := 0) rfl rfl ?_
      have ep := show rdBed tp tn i s n = _ from by
        unfold rdBed
        rw [if_pos k1, if_neg (fun q => absurd (h23.symm.trans q) (by decide))]
      rw [ep]
      exact h_ri rfl rfl ⟨rfl, T, XD, D.ltN hi k1, F⟩
  · refine h_cv rfl rfl rfl XD.1 rfl rfl (x_atO XD (-1) (inN_m1 n)) ?_
    refine h_n (st2 := [_]) rfl ?_
    iterate 3 refine h_s rfl ?_
    refine h_k (y := 0) rfl rfl ?_
    have ep := show rdBed tp tn i s n = _ from by
      unfold rdBed
      rw [if_neg (fun q => absurd (k1.symm.trans q) (by decide))]
    rw [ep]
    exact h_ri rfl rfl ⟨rfl, T, XD, hi, F⟩
set_option maxRecDepth 100000 in
set_option maxHeartbeats 4000000 in
theorem x_readNames_2 (T : TokW w tp tn tk (nI i) A B C) (D : TkD tp tn m A B C) (hi : i ≤ m) (XD : RowW w 12 s n)  : ab_Q X kX4_readNames [.ref 39, .ref 12, .int (z01 true)] w (PX w tp tn m tk A B C (rdNames tp tn 2 i s n)) := by
  have t0 := T.1
  have t1 := T.2.1
  have t2 := T.2.2.1
  have t3 := T.2.2.2.1
  have t4 := T.2.2.2.2.1
  have tl := T.2.2.2.2.2.1
  have al := T.2.2.2.2.2.2.2.1
  have bl := T.2.2.2.2.2.2.2.2.1
  have cl := T.2.2.2.2.2.2.2.2.2
  have hm := D.2.1
  have hn : n ≤ 8 := XD.2.2.2.2.2.2.2
  have F : ∀ j, (j < 12 ∨ (23 ≤ j ∧ j < 39) ∨ 44 ≤ j) → w[j]? = w[j]? := fun _ _ => rfl
  show ab_H X kX4_readNames 0 [some (.ref 39), some (.ref 12), some (.int (z01 true)), none, none, none] [] w _
  iterate 3 refine h_s rfl ?_
  refine h_gf rfl rfl rfl XD.1 rfl ?_
  refine hq_v rfl rfl rfl t0 rfl rfl (x_takeNumber T D (hi) (b := n) (by omega)) (fun v1 w1 q1 => ?_)
  obtain ⟨y1, i1, rfl, T, g1, N1⟩ := q1
  have XD := XD.fr (w1 := w1) (fun j _ _ => g1 j (by omega))
  have F := fun j hj => (g1 j (by omega)).trans (F j hj)
  have t0 := T.1
  have t1 := T.2.1
  have t2 := T.2.2.1
  have t3 := T.2.2.2.1
  have t4 := T.2.2.2.2.1
  have tl := T.2.2.2.2.2.1
  have al := T.2.2.2.2.2.2.2.1
  have bl := T.2.2.2.2.2.2.2.2.1
  have cl := T.2.2.2.2.2.2.2.2.2
  refine h_n (st2 := [_, _]) rfl ?_
  rcases N1 with ⟨k1, rfl, rfl⟩ | ⟨k1, rfl, rfl⟩
  · have hh := (tkN_ts k1).2
    refine h_cv rfl rfl rfl XD.1 rfl rfl (x_at XD hh) ?_
    refine h_n (st2 := [_]) rfl ?_
    iterate 4 refine h_s rfl ?_
    refine h_k (y := 8) rfl rfl ?_
    refine hq_v rfl rfl rfl t0 rfl rfl (x_takeNumber T D (D.ltN hi k1) (b := 8) (by decide)) (fun v2 w2 q2 => ?_)
    obtain ⟨y2, i2, rfl, T, g2, N2⟩ := q2
    have XD := XD.fr (w1 := w2) (fun j _ _ => g2 j (by omega))
    have F := fun j hj => (g2 j (by omega)).trans (F j hj)
    have t0 := T.1
    have t1 := T.2.1
    have t2 := T.2.2.1
    have t3 := T.2.2.2.1
    have t4 := T.2.2.2.2.1
    have tl := T.2.2.2.2.2.1
    have al := T.2.2.2.2.2.2.2.1
    have bl := T.2.2.2.2.2.2.2.2.1
    have cl := T.2.2.2.2.2.2.2.2.2
    refine h_n (st2 := [_]) rfl ?_
    refine h_s rfl ?_
    refine h_k (y := 0) rfl rfl ?_
    refine h_s rfl ?_
    rw [show rdNames tp tn 2 i s n = rdNamF tp tn 2 (tnV tp tn i) 121 (i + 1) s n from if_pos k1]
    have hS := XD
    refine h_loop0 120 (fun k ls v => ∃ j s2 y j1, ls = [some (.ref 39), some (.ref 12), some (.int (z01 true)), some (.ref (12 + 3 + tnV tp tn i)), some (.int y), some (.int (nI k))] ∧ j = i + 1 + k ∧ j ≤ m ∧ TN tp tn j 8 y j1 ∧ TokW v tp tn tk (nI j1) A B C ∧ RowW v 12 s2 n ∧ (∀ q, (q < 12 ∨ (23 ≤ q ∧ q < 39) ∨ 44 ≤ q) → v[q]? = w[q]?) ∧ rdNamF tp tn 2 (tnV tp tn i) 121 (i + 1) s n = rdNamF tp tn 2 (tnV tp tn i) (121 - k) j s2 n) ⟨_, _, _, _, rfl, rfl, D.ltN hi k1, N2, T, XD, F, rfl⟩ (fun k ls v hk hJ ih => ?_) (fun ls v hJ => ?_)
    · obtain ⟨j, s2, y, j1, rfl, rfl, hjm, N3, T, XD, F, hR⟩ := hJ
      have t0 := T.1
      have t1 := T.2.1
      have t2 := T.2.2.1
      have t3 := T.2.2.2.1
      have t4 := T.2.2.2.2.1
      have tl := T.2.2.2.2.2.1
      have al := T.2.2.2.2.2.2.2.1
      have bl := T.2.2.2.2.2.2.2.2.1
      have cl := T.2.2.2.2.2.2.2.2.2
      obtain ⟨g, hg⟩ : ∃ g, 121 - k = g + 1 := ⟨120 - k, by omega⟩
      rw [hg] at hR
      refine h_s rfl ?_
      refine h_k (y := 120) rfl rfl ?_
      refine hN_ge (b := 120) rfl rfl rfl rfl (by omega) (by omega) (fun h34 => absurd h34 (by omega)) (fun h34 => ?_)
      refine h_s rfl ?_
      refine h1_lt rfl rfl (fun h39 => ?_) (fun h39 => ?_)
      · refine h_k (y := 0) rfl rfl ?_
        obtain ⟨k3, rfl, rfl⟩ := N3.neg (by omega) h39
        rw [hR, show rdNamF tp tn 2 (tnV tp tn i) (g + 1) (i + 1 + k) s2 n = ⟨false, i + 1 + k, s2, n⟩ from by rw [rdNamF, if_neg (fun q => absurd (k3.symm.trans q) (by decide))]]
        exact h_ri rfl rfl ⟨rfl, T, XD, by omega, F⟩
      · obtain ⟨k3, rfl, rfl⟩ := N3.pos h39
        have hl3 := D.ltN hjm k3
        refine h_s rfl ?_
        iterate 3 refine h_s rfl ?_
        refine h_gf rfl rfl rfl (XD.2.2.2.1 _ hh) rfl ?_
        refine h_k (y := 1) rfl rfl ?_
        iterate 3 refine h_s rfl ?_
        refine h_pf rfl rfl (XD.2.2.2.1 _ hh) rfl (fun w6 e6 f6 => ?_)
        have XD := XD.setf (j := 2) hh (by decide) e6 f6
        have T := T.fr (w1 := w6) (fun j _ _ => f6 j (by omega))
        have F := fun j hj => (f6 j (by omega)).trans (F j hj)
        have t0 := T.1
        have t1 := T.2.1
        have t2 := T.2.2.1
        have t3 := T.2.2.2.1
        have t4 := T.2.2.2.2.1
        have tl := T.2.2.2.2.2.1
        have al := T.2.2.2.2.2.2.2.1
        have bl := T.2.2.2.2.2.2.2.2.1
        have cl := T.2.2.2.2.2.2.2.2.2
        iterate 2 refine h_s rfl ?_
        refine h_gf rfl rfl rfl t0 rfl ?_
        refine h_s rfl ?_
        refine h_gf rfl rfl rfl t0 rfl ?_
        obtain ⟨d1, -⟩ := D.1 (i + 1 + k + 1) (by omega)
        have hle := ts_le (tp := tp) (tn := tn) (a := tP tp tn (i + 1 + k + 1))
        obtain ⟨V, hV⟩ : ∃ V, tsN tp tn (tP tp tn (i + 1 + k + 1)) = V := ⟨_, rfl⟩
        rw [hV] at d1 hle
        refine h_c rfl (x_cell t2 (by omega) (j := i + 1 + k + 1) (by omega)) ?_
        refine h_t d1 ?_
        refine h_n (st2 := [_]) rfl ?_
        refine h_k (y := 2) rfl rfl ?_
        refine hN_eq (b := 2) rfl rfl rfl rfl (by omega) (by omega) (fun h87 => ?_) (fun h87 => ?_)
        · refine h_s rfl ?_
          refine h_k (y := 8) rfl rfl ?_
          refine hq_v rfl rfl rfl t0 rfl rfl (x_takeNumber T D (hl3) (b := 8) (by omega)) (fun v4 w4 q4 => ?_)
          obtain ⟨y4, i4, rfl, T, g4, N4⟩ := q4
          have XD := XD.fr (w1 := w4) (fun j _ _ => g4 j (by omega))
          have F := fun j hj => (g4 j (by omega)).trans (F j hj)
          have t0 := T.1
          have t1 := T.2.1
          have t2 := T.2.2.1
          have t3 := T.2.2.2.1
          have t4 := T.2.2.2.2.1
          have tl := T.2.2.2.2.2.1
          have al := T.2.2.2.2.2.2.2.1
          have bl := T.2.2.2.2.2.2.2.2.1
          have cl := T.2.2.2.2.2.2.2.2.2
          refine h_n (st2 := [_]) rfl ?_
          refine h_s rfl ?_
          refine h_ii rfl rfl rfl ?_
          refine h_s rfl ?_
          refine ih _ _ ⟨_, _, _, _, rfl, rfl, by omega, N4, T, XD, F, ?_⟩
          rw [hR, rdNamF, if_pos k3, if_pos (hV.trans h87), show 121 - (k + 1) = g by omega]
          rfl
        · refine h_k (y := 1) rfl rfl ?_
          rw [hR, show rdNamF tp tn 2 (tnV tp tn i) (g + 1) (i + 1 + k) s2 n = ⟨true, i + 1 + k + 1, _, n⟩ from by rw [rdNamF, if_pos k3, if_neg (fun q => h87 (hV.symm.trans q))]]
          exact h_ri rfl rfl ⟨rfl, T, XD, hl3, F⟩
    · obtain ⟨j, s2, y, j1, rfl, rfl, hjm, N3, T, XD, F, hR⟩ := hJ
      have t0 := T.1
      have t1 := T.2.1
      have t2 := T.2.2.1
      have t3 := T.2.2.2.1
      have t4 := T.2.2.2.2.1
      have tl := T.2.2.2.2.2.1
      have al := T.2.2.2.2.2.2.2.1
      have bl := T.2.2.2.2.2.2.2.2.1
      have cl := T.2.2.2.2.2.2.2.2.2
      have k3 : tkN tp tn (i + 1 + 120) 8 = false := by
        cases e : tkN tp tn (i + 1 + 120) 8 with
        | false => rfl
        | true => have := D.ltN hjm e; omega
      refine h_s rfl ?_
      refine h_k (y := 120) rfl rfl ?_
      refine hN_ge (b := 120) rfl rfl rfl rfl (by omega) (by omega) (fun h34 => ?_) (fun h34 => absurd (by omega) h34)
      refine h_k (y := 0) rfl rfl ?_
      exact absurd hjm (by omega)
  · refine h_cv rfl rfl rfl XD.1 rfl rfl (x_atO XD (-1) (inN_m1 n)) ?_
    refine h_n (st2 := [_]) rfl ?_
    iterate 3 refine h_s rfl ?_
    refine h_k (y := 0) rfl rfl ?_
    have ep := show rdNames tp tn 2 i s n = _ from by
      unfold rdNames
      rw [if_neg (fun q => absurd (k1.symm.trans q) (by decide))]
    rw [ep]
    exact h_ri rfl rfl ⟨rfl, T, XD, hi, F⟩
set_option maxRecDepth 100000 in
set_option maxHeartbeats 4000000 in
theorem x_readNames_5 (T : TokW w tp tn tk (nI i) A B C) (D : TkD tp tn m A B C) (hi : i ≤ m) (XD : RowW w 12 s n)  : ab_Q X kX4_readNames [.ref 39, .ref 12, .int (z01 false)] w (PX w tp tn m tk A B C (rdNames tp tn 5 i s n)) := by
  have t0 := T.1
  have t1 := T.2.1
  have t2 := T.2.2.1
  have t3 := T.2.2.2.1
  have t4 := T.2.2.2.2.1
  have tl := T.2.2.2.2.2.1
  have al := T.2.2.2.2.2.2.2.1
  have bl := T.2.2.2.2.2.2.2.2.1
  have cl := T.2.2.2.2.2.2.2.2.2
  have hm := D.2.1
  have hn : n ≤ 8 := XD.2.2.2.2.2.2.2
  have F : ∀ j, (j < 12 ∨ (23 ≤ j ∧ j < 39) ∨ 44 ≤ j) → w[j]? = w[j]? := fun _ _ => rfl
  show ab_H X kX4_readNames 0 [some (.ref 39), some (.ref 12), some (.int (z01 false)), none, none, none] [] w _
  iterate 3 refine h_s rfl ?_
  refine h_gf rfl rfl rfl XD.1 rfl ?_
  refine hq_v rfl rfl rfl t0 rfl rfl (x_takeNumber T D (hi) (b := n) (by omega)) (fun v1 w1 q1 => ?_)
  obtain ⟨y1, i1, rfl, T, g1, N1⟩ := q1
  have XD := XD.fr (w1 := w1) (fun j _ _ => g1 j (by omega))
  have F := fun j hj => (g1 j (by omega)).trans (F j hj)
  have t0 := T.1
  have t1 := T.2.1
  have t2 := T.2.2.1
  have t3 := T.2.2.2.1
  have t4 := T.2.2.2.2.1
  have tl := T.2.2.2.2.2.1
  have al := T.2.2.2.2.2.2.2.1
  have bl := T.2.2.2.2.2.2.2.2.1
  have cl := T.2.2.2.2.2.2.2.2.2
  refine h_n (st2 := [_, _]) rfl ?_
  rcases N1 with ⟨k1, rfl, rfl⟩ | ⟨k1, rfl, rfl⟩
  · have hh := (tkN_ts k1).2
    refine h_cv rfl rfl rfl XD.1 rfl rfl (x_at XD hh) ?_
    refine h_n (st2 := [_]) rfl ?_
    iterate 4 refine h_s rfl ?_
    refine h_k (y := 8) rfl rfl ?_
    refine hq_v rfl rfl rfl t0 rfl rfl (x_takeNumber T D (D.ltN hi k1) (b := 8) (by decide)) (fun v2 w2 q2 => ?_)
    obtain ⟨y2, i2, rfl, T, g2, N2⟩ := q2
    have XD := XD.fr (w1 := w2) (fun j _ _ => g2 j (by omega))
    have F := fun j hj => (g2 j (by omega)).trans (F j hj)
    have t0 := T.1
    have t1 := T.2.1
    have t2 := T.2.2.1
    have t3 := T.2.2.2.1
    have t4 := T.2.2.2.2.1
    have tl := T.2.2.2.2.2.1
    have al := T.2.2.2.2.2.2.2.1
    have bl := T.2.2.2.2.2.2.2.2.1
    have cl := T.2.2.2.2.2.2.2.2.2
    refine h_n (st2 := [_]) rfl ?_
    refine h_s rfl ?_
    refine h_k (y := 0) rfl rfl ?_
    refine h_s rfl ?_
    rw [show rdNames tp tn 5 i s n = rdNamF tp tn 5 (tnV tp tn i) 121 (i + 1) s n from if_pos k1]
    have hS := XD
    refine h_loop0 120 (fun k ls v => ∃ j s2 y j1, ls = [some (.ref 39), some (.ref 12), some (.int (z01 false)), some (.ref (12 + 3 + tnV tp tn i)), some (.int y), some (.int (nI k))] ∧ j = i + 1 + k ∧ j ≤ m ∧ TN tp tn j 8 y j1 ∧ TokW v tp tn tk (nI j1) A B C ∧ RowW v 12 s2 n ∧ (∀ q, (q < 12 ∨ (23 ≤ q ∧ q < 39) ∨ 44 ≤ q) → v[q]? = w[q]?) ∧ rdNamF tp tn 5 (tnV tp tn i) 121 (i + 1) s n = rdNamF tp tn 5 (tnV tp tn i) (121 - k) j s2 n) ⟨_, _, _, _, rfl, rfl, D.ltN hi k1, N2, T, XD, F, rfl⟩ (fun k ls v hk hJ ih => ?_) (fun ls v hJ => ?_)
    · obtain ⟨j, s2, y, j1, rfl, rfl, hjm, N3, T, XD, F, hR⟩ := hJ
      have t0 := T.1
      have t1 := T.2.1
      have t2 := T.2.2.1
      have t3 := T.2.2.2.1
      have t4 := T.2.2.2.2.1
      have tl := T.2.2.2.2.2.1
      have al := T.2.2.2.2.2.2.2.1
      have bl := T.2.2.2.2.2.2.2.2.1
      have cl := T.2.2.2.2.2.2.2.2.2
      obtain ⟨g, hg⟩ : ∃ g, 121 - k = g + 1 := ⟨120 - k, by omega⟩
      rw [hg] at hR
      refine h_s rfl ?_
      refine h_k (y := 120) rfl rfl ?_
      refine hN_ge (b := 120) rfl rfl rfl rfl (by omega) (by omega) (fun h34 => absurd h34 (by omega)) (fun h34 => ?_)
      refine h_s rfl ?_
      refine h1_lt rfl rfl (fun h39 => ?_) (fun h39 => ?_)
      · refine h_k (y := 0) rfl rfl ?_
        obtain ⟨k3, rfl, rfl⟩ := N3.neg (by omega) h39
        rw [hR, show rdNamF tp tn 5 (tnV tp tn i) (g + 1) (i + 1 + k) s2 n = ⟨false, i + 1 + k, s2, n⟩ from by rw [rdNamF, if_neg (fun q => absurd (k3.symm.trans q) (by decide))]]
        exact h_ri rfl rfl ⟨rfl, T, XD, by omega, F⟩
      · obtain ⟨k3, rfl, rfl⟩ := N3.pos h39
        have hl3 := D.ltN hjm k3
        refine h_s rfl ?_
        iterate 3 refine h_s rfl ?_
        refine h_gf rfl rfl rfl (XD.2.2.2.1 _ hh) rfl ?_
        refine h_k (y := 1) rfl rfl ?_
        iterate 3 refine h_s rfl ?_
        refine h_pf rfl rfl (XD.2.2.2.1 _ hh) rfl (fun w6 e6 f6 => ?_)
        have XD := XD.setf (j := 5) hh (by decide) e6 f6
        have T := T.fr (w1 := w6) (fun j _ _ => f6 j (by omega))
        have F := fun j hj => (f6 j (by omega)).trans (F j hj)
        have t0 := T.1
        have t1 := T.2.1
        have t2 := T.2.2.1
        have t3 := T.2.2.2.1
        have t4 := T.2.2.2.2.1
        have tl := T.2.2.2.2.2.1
        have al := T.2.2.2.2.2.2.2.1
        have bl := T.2.2.2.2.2.2.2.2.1
        have cl := T.2.2.2.2.2.2.2.2.2
        refine h_s rfl ?_
        refine h_gf rfl rfl rfl t0 rfl ?_
        refine h_s rfl ?_
        refine h_gf rfl rfl rfl t0 rfl ?_
        obtain ⟨d1, -⟩ := D.1 (i + 1 + k + 1) (by omega)
        have hle := ts_le (tp := tp) (tn := tn) (a := tP tp tn (i + 1 + k + 1))
        obtain ⟨V, hV⟩ : ∃ V, tsN tp tn (tP tp tn (i + 1 + k + 1)) = V := ⟨_, rfl⟩
        rw [hV] at d1 hle
        refine h_c rfl (x_cell t2 (by omega) (j := i + 1 + k + 1) (by omega)) ?_
        refine h_t d1 ?_
        refine h_n (st2 := [_]) rfl ?_
        refine h_k (y := 2) rfl rfl ?_
        refine hN_eq (b := 2) rfl rfl rfl rfl (by omega) (by omega) (fun h87 => ?_) (fun h87 => ?_)
        · refine h_s rfl ?_
          refine h_k (y := 8) rfl rfl ?_
          refine hq_v rfl rfl rfl t0 rfl rfl (x_takeNumber T D (hl3) (b := 8) (by omega)) (fun v4 w4 q4 => ?_)
          obtain ⟨y4, i4, rfl, T, g4, N4⟩ := q4
          have XD := XD.fr (w1 := w4) (fun j _ _ => g4 j (by omega))
          have F := fun j hj => (g4 j (by omega)).trans (F j hj)
          have t0 := T.1
          have t1 := T.2.1
          have t2 := T.2.2.1
          have t3 := T.2.2.2.1
          have t4 := T.2.2.2.2.1
          have tl := T.2.2.2.2.2.1
          have al := T.2.2.2.2.2.2.2.1
          have bl := T.2.2.2.2.2.2.2.2.1
          have cl := T.2.2.2.2.2.2.2.2.2
          refine h_n (st2 := [_]) rfl ?_
          refine h_s rfl ?_
          refine h_ii rfl rfl rfl ?_
          refine h_s rfl ?_
          refine ih _ _ ⟨_, _, _, _, rfl, rfl, by omega, N4, T, XD, F, ?_⟩
          rw [hR, rdNamF, if_pos k3, if_pos (hV.trans h87), show 121 - (k + 1) = g by omega]
          rfl
        · refine h_k (y := 1) rfl rfl ?_
          rw [hR, show rdNamF tp tn 5 (tnV tp tn i) (g + 1) (i + 1 + k) s2 n = ⟨true, i + 1 + k + 1, _, n⟩ from by rw [rdNamF, if_pos k3, if_neg (fun q => h87 (hV.symm.trans q))]]
          exact h_ri rfl rfl ⟨rfl, T, XD, hl3, F⟩
    · obtain ⟨j, s2, y, j1, rfl, rfl, hjm, N3, T, XD, F, hR⟩ := hJ
      have t0 := T.1
      have t1 := T.2.1
      have t2 := T.2.2.1
      have t3 := T.2.2.2.1
      have t4 := T.2.2.2.2.1
      have tl := T.2.2.2.2.2.1
      have al := T.2.2.2.2.2.2.2.1
      have bl := T.2.2.2.2.2.2.2.2.1
      have cl := T.2.2.2.2.2.2.2.2.2
      have k3 : tkN tp tn (i + 1 + 120) 8 = false := by
        cases e : tkN tp tn (i + 1 + 120) 8 with
        | false => rfl
        | true => have := D.ltN hjm e; omega
      refine h_s rfl ?_
      refine h_k (y := 120) rfl rfl ?_
      refine hN_ge (b := 120) rfl rfl rfl rfl (by omega) (by omega) (fun h34 => ?_) (fun h34 => absurd (by omega) h34)
      refine h_k (y := 0) rfl rfl ?_
      exact absurd hjm (by omega)
  · refine h_cv rfl rfl rfl XD.1 rfl rfl (x_atO XD (-1) (inN_m1 n)) ?_
    refine h_n (st2 := [_]) rfl ?_
    iterate 3 refine h_s rfl ?_
    refine h_k (y := 0) rfl rfl ?_
    have ep := show rdNames tp tn 5 i s n = _ from by
      unfold rdNames
      rw [if_neg (fun q => absurd (k1.symm.trans q) (by decide))]
    rw [ep]
    exact h_ri rfl rfl ⟨rfl, T, XD, hi, F⟩
set_option maxRecDepth 100000 in
set_option maxHeartbeats 4000000 in
theorem x_readHouse (T : TokW w tp tn tk (nI i) A B C) (D : TkD tp tn m A B C) (hi : i ≤ m) (XD : RowW w 12 s n) {k : Nat} (hk : tkI tp tn i = k) (hk7 : k < 7) : ab_Q X kX4_readHouse [.ref 39, .ref 12, .int (nI k)] w (PX w tp tn m tk A B C (rdHouse tp tn k i s n)) := by
  have t0 := T.1
  have t1 := T.2.1
  have t2 := T.2.2.1
  have t3 := T.2.2.2.1
  have t4 := T.2.2.2.2.1
  have tl := T.2.2.2.2.2.1
  have al := T.2.2.2.2.2.2.2.1
  have bl := T.2.2.2.2.2.2.2.2.1
  have cl := T.2.2.2.2.2.2.2.2.2
  have hm := D.2.1
  have hn : n ≤ 8 := XD.2.2.2.2.2.2.2
  have F : ∀ j, (j < 12 ∨ (23 ≤ j ∧ j < 39) ∨ 44 ≤ j) → w[j]? = w[j]? := fun _ _ => rfl
  show ab_H X kX4_readHouse 0 [some (.ref 39), some (.ref 12), some (.int (nI k)), none, none] [] w _
  refine h_s rfl ?_
  refine h_cv rfl rfl rfl XD.1 rfl rfl (x_isFull XD) ?_
  refine h_n (st2 := [_]) rfl ?_
  refine hd_eq rfl rfl (fun h4 => ?_) (fun h4 => ?_)
  · iterate 2 refine h_s rfl ?_
    refine h_gf rfl rfl rfl t0 rfl ?_
    refine h_k (y := 1) rfl rfl ?_
    refine h_Nadd (b := 1) rfl rfl rfl ?_
    refine h_pf rfl rfl t0 rfl (fun w5 e5 f5 => ?_)
    have T := T.hr' e5 f5
    have XD := XD.fr (w1 := w5) (fun j _ _ => f5 j (by omega))
    have F := fun j hj => (f5 j (by omega)).trans (F j hj)
    have t0 := T.1
    have t1 := T.2.1
    have t2 := T.2.2.1
    have t3 := T.2.2.2.1
    have t4 := T.2.2.2.2.1
    have tl := T.2.2.2.2.2.1
    have al := T.2.2.2.2.2.2.2.1
    have bl := T.2.2.2.2.2.2.2.2.1
    have cl := T.2.2.2.2.2.2.2.2.2
    iterate 2 refine h_s rfl ?_
    have h4' : n < 8 := by omega
    have hl1 : i + 1 ≤ m := D.ltI hi (by omega)
    refine hq_v rfl rfl rfl XD.1 rfl rfl (x_build XD h4' (nI k)) (fun v2 w2 q2 => ?_)
    obtain ⟨rfl, XD, g2⟩ := q2
    have T := T.fr (w1 := w2) (fun j _ _ => g2 j (by omega))
    have F := fun j hj => (g2 j (by omega)).trans (F j hj)
    have t0 := T.1
    have t1 := T.2.1
    have t2 := T.2.2.1
    have t3 := T.2.2.2.1
    have t4 := T.2.2.2.2.1
    have tl := T.2.2.2.2.2.1
    have al := T.2.2.2.2.2.2.2.1
    have bl := T.2.2.2.2.2.2.2.2.1
    have cl := T.2.2.2.2.2.2.2.2.2
    refine h_n (st2 := [_]) rfl ?_
    iterate 3 refine h_s rfl ?_
    refine h_cv rfl rfl rfl XD.1 rfl rfl (x_at XD (h := n) (by omega)) ?_
    refine h_n (st2 := [_]) rfl ?_
    iterate 6 refine h_s rfl ?_
    refine hq_v rfl rfl rfl t0 rfl rfl (x_readStair T D hl1 XD (h := n) (by omega)) (fun v3 w3 q3 => ?_)
    obtain ⟨rfl, T, XD, hl3, g3⟩ := q3
    obtain ⟨p1, hp1⟩ : ∃ p, rdStair tp tn n (i + 1) (newS s n (nI k)) (n + 1) = p := ⟨_, rfl⟩
    have n1 : p1.n = n + 1 := by rw [← hp1]; exact rdStair_n
    rw [hp1] at T XD hl3 ⊢
    rw [n1] at XD
    have F := fun j hj => (g3 j hj).trans (F j hj)
    have t0 := T.1
    have t1 := T.2.1
    have t2 := T.2.2.1
    have t3 := T.2.2.2.1
    have t4 := T.2.2.2.2.1
    have tl := T.2.2.2.2.2.1
    have al := T.2.2.2.2.2.2.2.1
    have bl := T.2.2.2.2.2.2.2.2.1
    have cl := T.2.2.2.2.2.2.2.2.2
    refine h_n (st2 := [_]) rfl ?_
    refine hz_eq rfl rfl (fun h44 => ?_) (fun h44 => ?_)
    · refine h_k (y := 0) rfl rfl ?_
      rw [show rdHouse tp tn k i s n = p1 from by unfold rdHouse; rw [if_pos h4', hp1, on_f h44, on_f h44]]
      exact h_ri rfl rfl ⟨by rw [h44]; rfl, T, by rw [n1]; exact XD, hl3, F⟩
    · iterate 2 refine h_s rfl ?_
      refine hq_v rfl rfl rfl t0 rfl rfl (x_readHours T D hl3 XD (h := n) (by omega)) (fun v4 w4 q4 => ?_)
      obtain ⟨rfl, T, XD, hl4, g4⟩ := q4
      obtain ⟨p2, hp2⟩ : ∃ p, rdHours tp tn n p1.i p1.s (n + 1) = p := ⟨_, rfl⟩
      have n2 : p2.n = n + 1 := by rw [← hp2]; exact rdHours_n
      rw [hp2] at T XD hl4 ⊢
      rw [n2] at XD
      have F := fun j hj => (g4 j hj).trans (F j hj)
      have t0 := T.1
      have t1 := T.2.1
      have t2 := T.2.2.1
      have t3 := T.2.2.2.1
      have t4 := T.2.2.2.2.1
      have tl := T.2.2.2.2.2.1
      have al := T.2.2.2.2.2.2.2.1
      have bl := T.2.2.2.2.2.2.2.2.1
      have cl := T.2.2.2.2.2.2.2.2.2
      refine h_n (st2 := [_]) rfl ?_
      refine hz_eq rfl rfl (fun h53 => ?_) (fun h53 => ?_)
      · refine h_k (y := 0) rfl rfl ?_
        rw [show rdHouse tp tn k i s n = p2 from by unfold rdHouse; rw [if_pos h4', hp1, on_t h44, n1, hp2, on_f h53]]
        exact h_ri rfl rfl ⟨by rw [h53]; rfl, T, by rw [n2]; exact XD, hl4, F⟩
      · iterate 2 refine h_s rfl ?_
        refine hq_v rfl rfl rfl t0 rfl rfl (x_readSleepers T D hl4 XD (h := n) (by omega)) (fun v5 w5 q5 => ?_)
        obtain ⟨rfl, T, XD, hl5, g5⟩ := q5
        obtain ⟨p3, hp3⟩ : ∃ p, rdSleep tp tn n p2.i p2.s (n + 1) = p := ⟨_, rfl⟩
        have n3 : p3.n = n + 1 := by rw [← hp3]; exact rdSleep_n
        rw [hp3] at T XD hl5 ⊢
        rw [n3] at XD
        have F := fun j hj => (g5 j hj).trans (F j hj)
        have t0 := T.1
        have t1 := T.2.1
        have t2 := T.2.2.1
        have t3 := T.2.2.2.1
        have t4 := T.2.2.2.2.1
        have tl := T.2.2.2.2.2.1
        have al := T.2.2.2.2.2.2.2.1
        have bl := T.2.2.2.2.2.2.2.2.1
        have cl := T.2.2.2.2.2.2.2.2.2
        refine h_n (st2 := [_]) rfl ?_
        refine hz_eq rfl rfl (fun h62 => ?_) (fun h62 => ?_)
        · refine h_k (y := 0) rfl rfl ?_
          rw [show rdHouse tp tn k i s n = p3 from by unfold rdHouse; rw [if_pos h4', hp1, on_t h44, n1, hp2, on_t h53, n2, hp3]]
          exact h_ri rfl rfl ⟨by rw [h62]; rfl, T, by rw [n3]; exact XD, hl5, F⟩
        · refine h_k (y := 1) rfl rfl ?_
          refine h_s rfl ?_
          rw [show rdHouse tp tn k i s n = p3 from by unfold rdHouse; rw [if_pos h4', hp1, on_t h44, n1, hp2, on_t h53, n2, hp3]]
          exact h_ri rfl rfl ⟨by rw [h62]; rfl, T, by rw [n3]; exact XD, hl5, F⟩
  · refine h_k (y := 0) rfl rfl ?_
    have ep := show rdHouse tp tn k i s n = _ from by
      unfold rdHouse
      rw [if_neg (by omega)]
    rw [ep]
    exact h_ri rfl rfl ⟨rfl, T, XD, hi, F⟩
set_option maxRecDepth 100000 in
set_option maxHeartbeats 4000000 in
theorem x_readItem (T : TokW w tp tn tk (nI i) A B C) (D : TkD tp tn m A B C) (hi : i ≤ m) (XD : RowW w 12 s n)  : ab_Q X kX4_readItem [.ref 39, .ref 12] w (PX w tp tn m tk A B C (rdItem tp tn i s n)) := by
  have t0 := T.1
  have t1 := T.2.1
  have t2 := T.2.2.1
  have t3 := T.2.2.2.1
  have t4 := T.2.2.2.2.1
  have tl := T.2.2.2.2.2.1
  have al := T.2.2.2.2.2.2.2.1
  have bl := T.2.2.2.2.2.2.2.2.1
  have cl := T.2.2.2.2.2.2.2.2.2
  have hm := D.2.1
  have hn : n ≤ 8 := XD.2.2.2.2.2.2.2
  have F : ∀ j, (j < 12 ∨ (23 ≤ j ∧ j < 39) ∨ 44 ≤ j) → w[j]? = w[j]? := fun _ _ => rfl
  obtain ⟨d1, d2, -⟩ := D.1 i (by omega)
  have hle := ts_le (tp := tp) (tn := tn) (a := tP tp tn i)
  obtain ⟨V, hV⟩ : ∃ V, tsN tp tn (tP tp tn i) = V := ⟨_, rfl⟩
  rw [hV] at d1 hle
  obtain ⟨K, hK⟩ : ∃ K, tkI tp tn i = K := ⟨_, rfl⟩
  show ab_H X kX4_readItem 0 [some (.ref 39), some (.ref 12), none] [] w _
  by_cases hV1 : V = 1
  · have hx : tvI tp tn (tP tp tn i) = if K < 17 then nI K else -1 := by
      rw [tv_1 (hV.trans hV1), ← hK]
      unfold wdI tkI
      rw [if_pos (hV.trans hV1)]
    rw [hx] at d2
    have hl1 : K < 17 → i + 1 ≤ m := fun q => D.ltI hi (by omega)
    by_cases hK7 : K < 7
    · rw [if_pos (by omega)] at d2
      refine h_s rfl ?_
      refine h_gf rfl rfl rfl t0 rfl ?_
      refine h_s rfl ?_
      refine h_gf rfl rfl rfl t0 rfl ?_
      refine h_c rfl (x_cell t2 (by omega) (j := i) (by omega)) ?_
      refine h_t d1 ?_
      refine h_n (st2 := [_]) rfl ?_
      refine h_k (y := 1) rfl rfl ?_
      refine hN_eq (b := 1) rfl rfl rfl rfl (by omega) (by omega) (fun h12 => ?_) (fun h12 => absurd (hV1) h12)
      refine h_s rfl ?_
      refine h_gf rfl rfl rfl t0 rfl ?_
      refine h_s rfl ?_
      refine h_gf rfl rfl rfl t0 rfl ?_
      refine h_c rfl (x_cell t3 (by omega) (j := i) (by omega)) ?_
      refine h_t d2 ?_
      refine h_n (st2 := [_]) rfl ?_
      iterate 2 refine h_s rfl ?_
      refine h_c rfl (x_isKind _) ?_
      refine h_n (st2 := [_]) rfl ?_
      refine hz_eq rfl rfl (fun h33 => absurd (show (true = false) from (show _ = true from inN_n (by decide) hK7).symm.trans h33) (by decide)) (fun h33 => ?_)
      iterate 3 refine h_s rfl ?_
      refine hq_v rfl rfl rfl t0 rfl rfl (x_readHouse T D hi XD hK hK7) (fun v3 w3 q3 => ?_)
      obtain ⟨rfl, T, XD, hl3, g3⟩ := q3
      have F := fun j hj => (g3 j hj).trans (F j hj)
      have t0 := T.1
      have t1 := T.2.1
      have t2 := T.2.2.1
      have t3 := T.2.2.2.1
      have t4 := T.2.2.2.2.1
      have tl := T.2.2.2.2.2.1
      have al := T.2.2.2.2.2.2.2.1
      have bl := T.2.2.2.2.2.2.2.2.1
      have cl := T.2.2.2.2.2.2.2.2.2
      refine h_n (st2 := [_]) rfl ?_
      rw [show rdItem tp tn i s n = rdHouse tp tn K i s n from by unfold rdItem; rw [hK, if_pos hK7]]
      exact h_rz rfl rfl ⟨rfl, T, XD, hl3, F⟩
    by_cases hK12 : K = 12
    · subst hK12
      have hl1 := hl1 (by decide)
      refine h_s rfl ?_
      refine h_gf rfl rfl rfl t0 rfl ?_
      refine h_s rfl ?_
      refine h_gf rfl rfl rfl t0 rfl ?_
      refine h_c rfl (x_cell t2 (by omega) (j := i) (by omega)) ?_
      refine h_t d1 ?_
      refine h_n (st2 := [_]) rfl ?_
      refine h_k (y := 1) rfl rfl ?_
      refine hN_eq (b := 1) rfl rfl rfl rfl (by omega) (by omega) (fun h12 => ?_) (fun h12 => absurd (hV1) h12)
      refine h_s rfl ?_
      refine h_gf rfl rfl rfl t0 rfl ?_
      refine h_s rfl ?_
      refine h_gf rfl rfl rfl t0 rfl ?_
      refine h_c rfl (x_cell t3 (by omega) (j := i) (by omega)) ?_
      refine h_t (y := 12) (d2.trans rfl) ?_
      refine h_n (st2 := [_]) rfl ?_
      iterate 2 refine h_s rfl ?_
      refine h_c rfl (x_isKind _) ?_
      refine h_n (st2 := [_]) rfl ?_
      refine hz_eq rfl rfl (fun h33 => ?_) (fun h33 => absurd (show (true = false) from h33.symm.trans (show _ = false from by decide)) (by decide))
      refine h_s rfl ?_
      refine h_Nsw (a := 12) rfl rfl (by decide) rfl rfl ?_
      iterate 2 refine h_s rfl ?_
      refine h_gf rfl rfl rfl t0 rfl ?_
      refine h_k (y := 1) rfl rfl ?_
      refine h_Nadd (b := 1) rfl rfl rfl ?_
      refine h_pf rfl rfl t0 rfl (fun w5 e5 f5 => ?_)
      have T := T.hr' e5 f5
      have XD := XD.fr (w1 := w5) (fun j _ _ => f5 j (by omega))
      have F := fun j hj => (f5 j (by omega)).trans (F j hj)
      have t0 := T.1
      have t1 := T.2.1
      have t2 := T.2.2.1
      have t3 := T.2.2.2.1
      have t4 := T.2.2.2.2.1
      have tl := T.2.2.2.2.2.1
      have al := T.2.2.2.2.2.2.2.1
      have bl := T.2.2.2.2.2.2.2.2.1
      have cl := T.2.2.2.2.2.2.2.2.2
      iterate 3 refine h_s rfl ?_
      refine h_k (y := 12) rfl rfl ?_
      refine h_s rfl ?_
      refine h_k (y := 1) rfl rfl ?_
      refine h_s rfl ?_
      refine hq_v rfl rfl rfl t0 rfl rfl (x_readNames_2 T D hl1 XD) (fun v3 w3 q3 => ?_)
      obtain ⟨rfl, T, XD, hl3, g3⟩ := q3
      have F := fun j hj => (g3 j hj).trans (F j hj)
      have t0 := T.1
      have t1 := T.2.1
      have t2 := T.2.2.1
      have t3 := T.2.2.2.1
      have t4 := T.2.2.2.2.1
      have tl := T.2.2.2.2.2.1
      have al := T.2.2.2.2.2.2.2.1
      have bl := T.2.2.2.2.2.2.2.2.1
      have cl := T.2.2.2.2.2.2.2.2.2
      refine h_n (st2 := [_]) rfl ?_
      rw [show rdItem tp tn i s n = rdNames tp tn 2 (i + 1) s n from by unfold rdItem; rw [hK, if_neg (by decide), if_pos rfl]]
      exact h_rz rfl rfl ⟨rfl, T, XD, hl3, F⟩
    by_cases hK13 : K = 13
    · subst hK13
      have hl1 := hl1 (by decide)
      refine h_s rfl ?_
      refine h_gf rfl rfl rfl t0 rfl ?_
      refine h_s rfl ?_
      refine h_gf rfl rfl rfl t0 rfl ?_
      refine h_c rfl (x_cell t2 (by omega) (j := i) (by omega)) ?_
      refine h_t d1 ?_
      refine h_n (st2 := [_]) rfl ?_
      refine h_k (y := 1) rfl rfl ?_
      refine hN_eq (b := 1) rfl rfl rfl rfl (by omega) (by omega) (fun h12 => ?_) (fun h12 => absurd (hV1) h12)
      refine h_s rfl ?_
      refine h_gf rfl rfl rfl t0 rfl ?_
      refine h_s rfl ?_
      refine h_gf rfl rfl rfl t0 rfl ?_
      refine h_c rfl (x_cell t3 (by omega) (j := i) (by omega)) ?_
      refine h_t (y := 13) (d2.trans rfl) ?_
      refine h_n (st2 := [_]) rfl ?_
      iterate 2 refine h_s rfl ?_
      refine h_c rfl (x_isKind _) ?_
      refine h_n (st2 := [_]) rfl ?_
      refine hz_eq rfl rfl (fun h33 => ?_) (fun h33 => absurd (show (true = false) from h33.symm.trans (show _ = false from by decide)) (by decide))
      refine h_s rfl ?_
      refine h_Nsw (a := 13) rfl rfl (by decide) rfl rfl ?_
      iterate 2 refine h_s rfl ?_
      refine h_gf rfl rfl rfl t0 rfl ?_
      refine h_k (y := 1) rfl rfl ?_
      refine h_Nadd (b := 1) rfl rfl rfl ?_
      refine h_pf rfl rfl t0 rfl (fun w5 e5 f5 => ?_)
      have T := T.hr' e5 f5
      have XD := XD.fr (w1 := w5) (fun j _ _ => f5 j (by omega))
      have F := fun j hj => (f5 j (by omega)).trans (F j hj)
      have t0 := T.1
      have t1 := T.2.1
      have t2 := T.2.2.1
      have t3 := T.2.2.2.1
      have t4 := T.2.2.2.2.1
      have tl := T.2.2.2.2.2.1
      have al := T.2.2.2.2.2.2.2.1
      have bl := T.2.2.2.2.2.2.2.2.1
      have cl := T.2.2.2.2.2.2.2.2.2
      iterate 3 refine h_s rfl ?_
      refine h_k (y := 12) rfl rfl ?_
      refine h_s rfl ?_
      refine h_k (y := 0) rfl rfl ?_
      refine hq_v rfl rfl rfl t0 rfl rfl (x_readNames_5 T D hl1 XD) (fun v3 w3 q3 => ?_)
      obtain ⟨rfl, T, XD, hl3, g3⟩ := q3
      have F := fun j hj => (g3 j hj).trans (F j hj)
      have t0 := T.1
      have t1 := T.2.1
      have t2 := T.2.2.1
      have t3 := T.2.2.2.1
      have t4 := T.2.2.2.2.1
      have tl := T.2.2.2.2.2.1
      have al := T.2.2.2.2.2.2.2.1
      have bl := T.2.2.2.2.2.2.2.2.1
      have cl := T.2.2.2.2.2.2.2.2.2
      refine h_n (st2 := [_]) rfl ?_
      rw [show rdItem tp tn i s n = rdNames tp tn 5 (i + 1) s n from by unfold rdItem; rw [hK, if_neg (by decide), if_neg (by decide), if_pos rfl]]
      exact h_rz rfl rfl ⟨rfl, T, XD, hl3, F⟩
    by_cases hK14 : K = 14
    · subst hK14
      have hl1 := hl1 (by decide)
      refine h_s rfl ?_
      refine h_gf rfl rfl rfl t0 rfl ?_
      refine h_s rfl ?_
      refine h_gf rfl rfl rfl t0 rfl ?_
      refine h_c rfl (x_cell t2 (by omega) (j := i) (by omega)) ?_
      refine h_t d1 ?_
      refine h_n (st2 := [_]) rfl ?_
      refine h_k (y := 1) rfl rfl ?_
      refine hN_eq (b := 1) rfl rfl rfl rfl (by omega) (by omega) (fun h12 => ?_) (fun h12 => absurd (hV1) h12)
      refine h_s rfl ?_
      refine h_gf rfl rfl rfl t0 rfl ?_
      refine h_s rfl ?_
      refine h_gf rfl rfl rfl t0 rfl ?_
      refine h_c rfl (x_cell t3 (by omega) (j := i) (by omega)) ?_
      refine h_t (y := 14) (d2.trans rfl) ?_
      refine h_n (st2 := [_]) rfl ?_
      iterate 2 refine h_s rfl ?_
      refine h_c rfl (x_isKind _) ?_
      refine h_n (st2 := [_]) rfl ?_
      refine hz_eq rfl rfl (fun h33 => ?_) (fun h33 => absurd (show (true = false) from h33.symm.trans (show _ = false from by decide)) (by decide))
      refine h_s rfl ?_
      refine h_Nsw (a := 14) rfl rfl (by decide) rfl rfl ?_
      iterate 2 refine h_s rfl ?_
      refine h_gf rfl rfl rfl t0 rfl ?_
      refine h_k (y := 1) rfl rfl ?_
      refine h_Nadd (b := 1) rfl rfl rfl ?_
      refine h_pf rfl rfl t0 rfl (fun w5 e5 f5 => ?_)
      have T := T.hr' e5 f5
      have XD := XD.fr (w1 := w5) (fun j _ _ => f5 j (by omega))
      have F := fun j hj => (f5 j (by omega)).trans (F j hj)
      have t0 := T.1
      have t1 := T.2.1
      have t2 := T.2.2.1
      have t3 := T.2.2.2.1
      have t4 := T.2.2.2.2.1
      have tl := T.2.2.2.2.2.1
      have al := T.2.2.2.2.2.2.2.1
      have bl := T.2.2.2.2.2.2.2.2.1
      have cl := T.2.2.2.2.2.2.2.2.2
      iterate 2 refine h_s rfl ?_
      refine hq_v rfl rfl rfl t0 rfl rfl (x_readDoor T D hl1 XD) (fun v3 w3 q3 => ?_)
      obtain ⟨rfl, T, XD, hl3, g3⟩ := q3
      have F := fun j hj => (g3 j hj).trans (F j hj)
      have t0 := T.1
      have t1 := T.2.1
      have t2 := T.2.2.1
      have t3 := T.2.2.2.1
      have t4 := T.2.2.2.2.1
      have tl := T.2.2.2.2.2.1
      have al := T.2.2.2.2.2.2.2.1
      have bl := T.2.2.2.2.2.2.2.2.1
      have cl := T.2.2.2.2.2.2.2.2.2
      refine h_n (st2 := [_]) rfl ?_
      rw [show rdItem tp tn i s n = rdDoor tp tn (i + 1) s n from by unfold rdItem; rw [hK, if_neg (by decide), if_neg (by decide), if_neg (by decide), if_pos rfl]]
      exact h_rz rfl rfl ⟨rfl, T, XD, hl3, F⟩
    by_cases hK15 : K = 15
    · subst hK15
      have hl1 := hl1 (by decide)
      refine h_s rfl ?_
      refine h_gf rfl rfl rfl t0 rfl ?_
      refine h_s rfl ?_
      refine h_gf rfl rfl rfl t0 rfl ?_
      refine h_c rfl (x_cell t2 (by omega) (j := i) (by omega)) ?_
      refine h_t d1 ?_
      refine h_n (st2 := [_]) rfl ?_
      refine h_k (y := 1) rfl rfl ?_
      refine hN_eq (b := 1) rfl rfl rfl rfl (by omega) (by omega) (fun h12 => ?_) (fun h12 => absurd (hV1) h12)
      refine h_s rfl ?_
      refine h_gf rfl rfl rfl t0 rfl ?_
      refine h_s rfl ?_
      refine h_gf rfl rfl rfl t0 rfl ?_
      refine h_c rfl (x_cell t3 (by omega) (j := i) (by omega)) ?_
      refine h_t (y := 15) (d2.trans rfl) ?_
      refine h_n (st2 := [_]) rfl ?_
      iterate 2 refine h_s rfl ?_
      refine h_c rfl (x_isKind _) ?_
      refine h_n (st2 := [_]) rfl ?_
      refine hz_eq rfl rfl (fun h33 => ?_) (fun h33 => absurd (show (true = false) from h33.symm.trans (show _ = false from by decide)) (by decide))
      refine h_s rfl ?_
      refine h_Nsw (a := 15) rfl rfl (by decide) rfl rfl ?_
      iterate 2 refine h_s rfl ?_
      refine h_gf rfl rfl rfl t0 rfl ?_
      refine h_k (y := 1) rfl rfl ?_
      refine h_Nadd (b := 1) rfl rfl rfl ?_
      refine h_pf rfl rfl t0 rfl (fun w5 e5 f5 => ?_)
      have T := T.hr' e5 f5
      have XD := XD.fr (w1 := w5) (fun j _ _ => f5 j (by omega))
      have F := fun j hj => (f5 j (by omega)).trans (F j hj)
      have t0 := T.1
      have t1 := T.2.1
      have t2 := T.2.2.1
      have t3 := T.2.2.2.1
      have t4 := T.2.2.2.2.1
      have tl := T.2.2.2.2.2.1
      have al := T.2.2.2.2.2.2.2.1
      have bl := T.2.2.2.2.2.2.2.2.1
      have cl := T.2.2.2.2.2.2.2.2.2
      iterate 2 refine h_s rfl ?_
      refine hq_v rfl rfl rfl t0 rfl rfl (x_readBed T D hl1 XD) (fun v3 w3 q3 => ?_)
      obtain ⟨rfl, T, XD, hl3, g3⟩ := q3
      have F := fun j hj => (g3 j hj).trans (F j hj)
      have t0 := T.1
      have t1 := T.2.1
      have t2 := T.2.2.1
      have t3 := T.2.2.2.1
      have t4 := T.2.2.2.2.1
      have tl := T.2.2.2.2.2.1
      have al := T.2.2.2.2.2.2.2.1
      have bl := T.2.2.2.2.2.2.2.2.1
      have cl := T.2.2.2.2.2.2.2.2.2
      refine h_n (st2 := [_]) rfl ?_
      rw [show rdItem tp tn i s n = rdBed tp tn (i + 1) s n from by unfold rdItem; rw [hK, if_neg (by decide), if_neg (by decide), if_neg (by decide), if_neg (by decide), if_pos rfl]]
      exact h_rz rfl rfl ⟨rfl, T, XD, hl3, F⟩
    have hx0 : ∃ x, B.getD i 0 = x ∧ inN x 7 = false ∧ (decide (x.toInt < 12) || decide (15 < x.toInt)) = true := by
      refine ⟨_, d2, ?_⟩
      split
      · rw [inN_nI (by omega), decide_eq_false hK7]
        refine ⟨rfl, ?_⟩
        rw [nI_toInt (by omega), Bool.or_eq_true, decide_eq_true_eq, decide_eq_true_eq]
        omega
      · exact ⟨by decide, by decide⟩
    obtain ⟨x, ex, ex7, exs⟩ := hx0
    refine h_s rfl ?_
    refine h_gf rfl rfl rfl t0 rfl ?_
    refine h_s rfl ?_
    refine h_gf rfl rfl rfl t0 rfl ?_
    refine h_c rfl (x_cell t2 (by omega) (j := i) (by omega)) ?_
    refine h_t d1 ?_
    refine h_n (st2 := [_]) rfl ?_
    refine h_k (y := 1) rfl rfl ?_
    refine hN_eq (b := 1) rfl rfl rfl rfl (by omega) (by omega) (fun h12 => ?_) (fun h12 => absurd (hV1) h12)
    refine h_s rfl ?_
    refine h_gf rfl rfl rfl t0 rfl ?_
    refine h_s rfl ?_
    refine h_gf rfl rfl rfl t0 rfl ?_
    refine h_c rfl (x_cell t3 (by omega) (j := i) (by omega)) ?_
    refine h_t ex ?_
    refine h_n (st2 := [_]) rfl ?_
    iterate 2 refine h_s rfl ?_
    refine h_c rfl (x_isKind _) ?_
    refine h_n (st2 := [_]) rfl ?_
    refine hz_eq rfl rfl (fun h33 => ?_) (fun h33 => absurd (show (true = false) from h33.symm.trans (show _ = false from ex7)) (by decide))
    refine h_s rfl ?_
    refine h_swd rfl exs rfl ?_
    refine h_k (y := 0) rfl rfl ?_
    rw [show rdItem tp tn i s n = ⟨false, i, s, n⟩ from by unfold rdItem; rw [hK, if_neg hK7, if_neg hK12, if_neg hK13, if_neg hK14, if_neg hK15]]
    exact h_ri rfl rfl ⟨rfl, T, XD, hi, F⟩
  · have hk17 : tkI tp tn i = 17 := by
      unfold tkI
      rw [if_neg (fun q => hV1 (hV.symm.trans q))]
    refine h_s rfl ?_
    refine h_gf rfl rfl rfl t0 rfl ?_
    refine h_s rfl ?_
    refine h_gf rfl rfl rfl t0 rfl ?_
    refine h_c rfl (x_cell t2 (by omega) (j := i) (by omega)) ?_
    refine h_t d1 ?_
    refine h_n (st2 := [_]) rfl ?_
    refine h_k (y := 1) rfl rfl ?_
    refine hN_eq (b := 1) rfl rfl rfl rfl (by omega) (by omega) (fun h12 => absurd h12 (hV1)) (fun h12 => ?_)
    refine h_k (y := 0) rfl rfl ?_
    rw [show rdItem tp tn i s n = ⟨false, i, s, n⟩ from by unfold rdItem; rw [hk17]; rfl]
    exact h_ri rfl rfl ⟨rfl, T, XD, hi, F⟩
end RX
