/-! TEXT: tokens, as the class finds them -/
def ltB (x : Int32) : Bool := decide (97 ≤ x) && decide (x ≤ 122)
def dgB (x : Int32) : Bool := decide (48 ≤ x) && decide (x ≤ 57)
def spB (x : Int32) : Bool := decide (x = 32)
def runF (p : Int32 → Bool) (tp : List Int32) (tn : Nat) : Nat → Nat → Nat
  | 0, a => a
  | d + 1, a => if a < tn ∧ p (tp.getD a 0) = true then runF p tp tn d (a + 1) else a
/-- where a run of p from a on ends -/
def runE (p : Int32 → Bool) (tp : List Int32) (tn a : Nat) : Nat := runF p tp tn (tn - a) a
theorem runF_ok (p : Int32 → Bool) (tp : List Int32) (tn : Nat) : ∀ (d a : Nat), tn - a ≤ d → a ≤ runF p tp tn d a ∧ (∀ j, a ≤ j → j < runF p tp tn d a → j < tn ∧ p (tp.getD j 0) = true) ∧ ¬ (runF p tp tn d a < tn ∧ p (tp.getD (runF p tp tn d a) 0) = true)
  | 0, a, h => ⟨Nat.le_refl _, fun j h1 h2 => absurd h2 (by show ¬ j < a; omega), fun q => by have h3 : a < tn := q.1; omega⟩
  | d + 1, a, h => by
    rw [runF]
    by_cases hc : a < tn ∧ p (tp.getD a 0) = true
    · rw [if_pos hc]
      obtain ⟨h1, h2, h3⟩ := runF_ok p tp tn d (a + 1) (by omega)
      refine ⟨by omega, fun j hj1 hj2 => ?_, h3⟩
      by_cases e : j = a
      · rw [e]; exact hc
      · exact h2 j (by omega) hj2
    · rw [if_neg hc]
      exact ⟨Nat.le_refl _, fun j h1 h2 => absurd h2 (by omega), hc⟩
section RU
variable {p : Int32 → Bool} {tp : List Int32} {tn a e : Nat}
theorem run_ok : a ≤ runE p tp tn a ∧ (∀ j, a ≤ j → j < runE p tp tn a → j < tn ∧ p (tp.getD j 0) = true) ∧ ¬ (runE p tp tn a < tn ∧ p (tp.getD (runE p tp tn a) 0) = true) := runF_ok p tp tn (tn - a) a (Nat.le_refl _)
theorem run_le (h : a ≤ tn) : runE p tp tn a ≤ tn := by
  obtain ⟨h1, h2, h3⟩ := run_ok (p := p) (tp := tp) (tn := tn) (a := a)
  rcases Nat.lt_or_ge tn (runE p tp tn a) with q | q
  · have := (h2 tn h q).1; omega
  · exact q
theorem run_eq (h1 : a ≤ e) (h2 : ∀ j, a ≤ j → j < e → j < tn ∧ p (tp.getD j 0) = true) (h3 : ¬ (e < tn ∧ p (tp.getD e 0) = true)) : runE p tp tn a = e := by
  obtain ⟨k1, k2, k3⟩ := run_ok (p := p) (tp := tp) (tn := tn) (a := a)
  rcases Nat.lt_trichotomy (runE p tp tn a) e with q | q | q
  · exact absurd (h2 _ k1 q) k3
  · exact q
  · exact absurd (k2 _ h1 q) h3
theorem run_gt (h : a < tn) (hp : p (tp.getD a 0) = true) : a < runE p tp tn a := by
  obtain ⟨k1, k2, k3⟩ := run_ok (p := p) (tp := tp) (tn := tn) (a := a)
  rcases Nat.lt_or_ge a (runE p tp tn a) with q | q
  · exact q
  · rw [show runE p tp tn a = a by omega] at k3
    exact absurd ⟨h, hp⟩ k3
theorem run_no (hp : ¬ (a < tn ∧ p (tp.getD a 0) = true)) : runE p tp tn a = a := run_eq (Nat.le_refl _) (fun j h1 h2 => absurd h2 (by omega)) hp
theorem run_s (h : a < tn) (hp : p (tp.getD a 0) = true) : runE p tp tn (a + 1) = runE p tp tn a := by
  obtain ⟨k1, k2, k3⟩ := run_ok (p := p) (tp := tp) (tn := tn) (a := a)
  have := run_gt h hp
  exact run_eq (by omega) (fun j h1 h2 => k2 j (by omega) h2) k3
end RU
def spE (tp : List Int32) (tn a : Nat) : Nat := runE spB tp tn a
def tkE (tp : List Int32) (tn a : Nat) : Nat := if a < tn then (if ltB (tp.getD a 0) = true then runE ltB tp tn a else if dgB (tp.getD a 0) = true then runE dgB tp tn a else a + 1) else a
/-- where token i begins -/
def tP (tp : List Int32) (tn : Nat) : Nat → Nat
  | 0 => spE tp tn 0
  | i + 1 => spE tp tn (tkE tp tn (tP tp tn i))
theorem tk_le {tp : List Int32} {tn a : Nat} (h : a ≤ tn) : tkE tp tn a ≤ tn := by
  unfold tkE
  split
  · split
    · exact run_le h
    · split
      · exact run_le h
      · omega
  · exact h
theorem tk_gt {tp : List Int32} {tn a : Nat} (h : a < tn) : a < tkE tp tn a := by
  unfold tkE
  rw [if_pos h]
  split
  · rename_i q
    exact run_gt h q
  · split
    · rename_i q
      exact run_gt h q
    · omega
theorem tP_le {tp : List Int32} {tn : Nat} : ∀ i, tP tp tn i ≤ tn
  | 0 => run_le (Nat.zero_le _)
  | i + 1 => run_le (tk_le (tP_le i))
theorem tP_lt {tp : List Int32} {tn i : Nat} (h : tP tp tn i < tn) : tP tp tn i < tP tp tn (i + 1) := Nat.lt_of_lt_of_le (tk_gt h) (run_ok (p := spB)).1
theorem tP_end {tp : List Int32} {tn i : Nat} (h : tP tp tn i = tn) : tP tp tn (i + 1) = tn := by
  show spE tp tn (tkE tp tn (tP tp tn i)) = tn
  rw [h]
  unfold tkE spE
  rw [if_neg (by omega)]
  exact run_no (by omega)
/-- a token begins with no space -/
theorem tP_ns {tp : List Int32} {tn : Nat} : ∀ i, ¬ (tP tp tn i < tn ∧ tp.getD (tP tp tn i) 0 = 32)
  | 0, q => (run_ok (p := spB) (tp := tp) (tn := tn) (a := 0)).2.2 ⟨q.1, decide_eq_true q.2⟩
  | i + 1, q => (run_ok (p := spB) (tp := tp) (tn := tn) (a := tkE tp tn (tP tp tn i))).2.2 ⟨q.1, decide_eq_true q.2⟩
def dvN (x : Int32) : Nat := x.toNatClampNeg - 48
theorem dg_e {x : Int32} (h : dgB x = true) : x = nI (48 + dvN x) ∧ dvN x ≤ 9 := by
  unfold dgB at h
  simp only [Bool.and_eq_true, decide_eq_true_eq, le_iff] at h
  obtain ⟨h1, h2⟩ := h
  have h1 : (48 : Int) ≤ x.toInt := h1
  have h2 : x.toInt ≤ 57 := h2
  have e : x = nI x.toInt.toNat := by
    apply Int32.toInt_inj.mp
    rw [nI_toInt (by omega)]
    omega
  have e2 : x.toNatClampNeg = x.toInt.toNat := by rw [e, nI_clamp (by omega), nI_toInt (by omega)]; omega
  unfold dvN
  rw [e2]
  refine ⟨?_, by omega⟩
  rw [show 48 + (x.toInt.toNat - 48) = x.toInt.toNat by omega]
  exact e
/-- the number of the first k digits from a on; it stops beyond 999 -/
def nvF (tp : List Int32) (a : Nat) : Nat → Nat
  | 0 => 0
  | k + 1 => if 999 < nvF tp a k then nvF tp a k else 10 * nvF tp a k + dvN (tp.getD (a + k) 0)
theorem nv_stay {tp : List Int32} {a k : Nat} (h : 999 < nvF tp a k) : ∀ d, nvF tp a (k + d) = nvF tp a k
  | 0 => rfl
  | d + 1 => by
    show (if 999 < nvF tp a (k + d) then nvF tp a (k + d) else _) = _
    rw [nv_stay h d, if_pos h]
theorem nv_le {tp : List Int32} {a : Nat} : ∀ {k : Nat}, (∀ i, i < k → dgB (tp.getD (a + i) 0) = true) → nvF tp a k ≤ 9999
  | 0, _ => Nat.zero_le _
  | k + 1, h => by
    have h1 := nv_le (k := k) (fun i hi => h i (by omega))
    have h2 := (dg_e (h k (by omega))).2
    rw [nvF]
    split <;> omega
/-- the letters from a to e are the word j -/
def isWd (tp : List Int32) (a e j : Nat) : Bool := decide (e - a = (wdL j).length) && !anyR (fun i => !decide (tp.getD (a + i) 0 = (wdL j).getD i 0)) (wdL j).length
def wdI (tp : List Int32) (a e : Nat) : Int32 := if lst (isWd tp a e) 17 < 17 then nI (lst (isWd tp a e) 17) else -1
/-- the sort of the token at a: end, word, number, sign, bad -/
def tsN (tp : List Int32) (tn a : Nat) : Nat := if a < tn then (if ltB (tp.getD a 0) = true then 1 else if dgB (tp.getD a 0) = true then (if 999 < nvF tp a (runE dgB tp tn a - a) then 4 else 2) else if tp.getD a 0 = 59 then 3 else 4) else 0
def tvI (tp : List Int32) (tn a : Nat) : Int32 := if a < tn then (if ltB (tp.getD a 0) = true then wdI tp a (runE ltB tp tn a) else if dgB (tp.getD a 0) = true then nI (nvF tp a (runE dgB tp tn a - a)) else 0) else 0
theorem ts_le {tp : List Int32} {tn a : Nat} : tsN tp tn a ≤ 4 := by
  unfold tsN
  repeat' split
  all_goals omega
/-- the tape and the tokens found on it -/
def TokW (w : ab_W) (tp : List Int32) (tn : Nat) (tk hr : Int32) (A B C : List Int32) : Prop := w[39]? = some (.inl (4, [.ref 40, .int (nI tn), .ref 41, .ref 42, .ref 43, .int tk, .int hr])) ∧ w[40]? = some (.inr tp) ∧ w[41]? = some (.inr A) ∧ w[42]? = some (.inr B) ∧ w[43]? = some (.inr C) ∧ tp.length = 120 ∧ tn ≤ 120 ∧ A.length = 121 ∧ B.length = 121 ∧ C.length = 121
def TokD (tp : List Int32) (tn : Nat) (A B C : List Int32) (i : Nat) : Prop := ∀ j, j < i → A.getD j 0 = nI (tsN tp tn (tP tp tn j)) ∧ B.getD j 0 = tvI tp tn (tP tp tn j) ∧ C.getD j 0 = nI (tP tp tn j)
section LX
variable {X : List Int32} {w : ab_W} {tp A B C : List Int32} {tn : Nat} {tk hr : Int32}
set_option maxRecDepth 100000 in
set_option maxHeartbeats 4000000 in
theorem x_endOf (t0 : w[39]? = some (.inl (4, [.ref 40, .int (nI tn), .ref 41, .ref 42, .ref 43, .int tk, .int hr]))) (t1 : w[40]? = some (.inr tp)) (tl : tp.length = 120) (htn : tn ≤ 120) {p : Int32 → Bool} {lo hi : Int32} (hp : ∀ x, p x = (decide (lo ≤ x) && decide (x ≤ hi))) {a : Nat} (ha : a ≤ tn) : ab_M X kX4_endOf [.ref 39, .int lo, .int hi, .int (nI a)] w (some (.int (nI (runE p tp tn a)))) w := by
  show ab_G X kX4_endOf 0 [some (.ref 39), some (.int lo), some (.int hi), some (.int (nI a)), none] [] w _ _
  iterate 2 refine ab_s rfl ?_
  refine g_loop0 (tn - a) (fun i ls => ls = [some (.ref 39), some (.int lo), some (.int hi), some (.int (nI a)), some (.int (nI (a + i)))] ∧ ∀ j, a ≤ j → j < a + i → j < tn ∧ p (tp.getD j 0) = true) ⟨rfl, fun j h1 h2 => absurd h2 (by omega)⟩ (fun i ls hi hJ ih => ?_) (fun ls hJ => ?_)
  · obtain ⟨rfl, hq⟩ := hJ
    iterate 2 refine ab_s rfl ?_
    refine ab_gf rfl rfl rfl t0 rfl ?_
    refine jN_ge rfl rfl rfl rfl (by omega) (by omega) (fun h9 => absurd h9 (by omega)) (fun h9 => ?_)
    refine ab_s rfl ?_
    refine ab_gf rfl rfl rfl t0 rfl ?_
    refine ab_s rfl ?_
    refine ab_c rfl (x_cell t1 (by omega) (j := a + i) (by omega)) ?_
    refine ab_n (st2 := [_]) rfl ?_
    refine ab_s rfl ?_
    refine j2_lt rfl rfl (fun h22 => ?_) (fun h22 => ?_)
    · refine ab_s rfl ?_
      exact ab_ri rfl (congrArg nI (run_eq (by omega) hq (fun q => by rw [hp, decide_eq_false (Int32.not_le.mpr h22), Bool.false_and] at q; exact absurd q.2 (by decide))).symm)
    · refine ab_s rfl ?_
      refine ab_gf rfl rfl rfl t0 rfl ?_
      refine ab_s rfl ?_
      refine ab_c rfl (x_cell t1 (by omega) (j := a + i) (by omega)) ?_
      refine ab_n (st2 := [_]) rfl ?_
      refine ab_s rfl ?_
      refine j2_gt rfl rfl (fun h35 => ?_) (fun h35 => ?_)
      · refine ab_s rfl ?_
        exact ab_ri rfl (congrArg nI (run_eq (by omega) hq (fun q => by rw [hp, decide_eq_false (Int32.not_le.mpr h35), Bool.and_false] at q; exact absurd q.2 (by decide))).symm)
      · refine ab_ii rfl rfl rfl ?_
        refine ab_s rfl ?_
        refine ih _ ⟨rfl, fun j h1 h2 => ?_⟩
        by_cases e : j = a + i
        · rw [e, hp]
          exact ⟨by omega, by rw [decide_eq_true (Int32.not_lt.mp h22), decide_eq_true (Int32.not_lt.mp h35)]; rfl⟩
        · exact hq j h1 (by omega)
  · obtain ⟨rfl, hq⟩ := hJ
    iterate 2 refine ab_s rfl ?_
    refine ab_gf rfl rfl rfl t0 rfl ?_
    refine jN_ge rfl rfl rfl rfl (by omega) (by omega) (fun h9 => ?_) (fun h9 => absurd (by omega) h9)
    refine ab_s rfl ?_
    exact ab_ri rfl (congrArg nI (run_eq (by omega) hq (fun q => by have := q.1; omega)).symm)
set_option maxRecDepth 100000 in
set_option maxHeartbeats 4000000 in
theorem x_numberBetween (t0 : w[39]? = some (.inl (4, [.ref 40, .int (nI tn), .ref 41, .ref 42, .ref 43, .int tk, .int hr]))) (t1 : w[40]? = some (.inr tp)) (tl : tp.length = 120) (htn : tn ≤ 120) {a e : Nat} (hae : a ≤ e) (he : e ≤ tn) (hd : ∀ j, a ≤ j → j < e → dgB (tp.getD j 0) = true) : ab_M X kX4_numberBetween [.ref 39, .int (nI a), .int (nI e)] w (some (.int (nI (nvF tp a (e - a))))) w := by
  show ab_G X kX4_numberBetween 0 [some (.ref 39), some (.int (nI a)), some (.int (nI e)), none, none] [] w _ _
  refine ab_k (y := 0) rfl rfl ?_
  iterate 3 refine ab_s rfl ?_
  refine g_loop0 (e - a) (fun i ls => ls = [some (.ref 39), some (.int (nI a)), some (.int (nI e)), some (.int (nI (nvF tp a i))), some (.int (nI (a + i)))]) rfl (fun i ls hi hJ ih => ?_) (fun ls hJ => ?_)
  · obtain rfl := hJ
    obtain ⟨hx, hd9⟩ := dg_e (hd (a + i) (by omega) (by omega))
    have hle := nv_le (tp := tp) (a := a) (k := i) (fun j hj => hd (a + j) (by omega) (by omega))
    obtain ⟨V, hV⟩ : ∃ V, nvF tp a i = V := ⟨_, rfl⟩
    have hs : nvF tp a (i + 1) = if 999 < V then V else 10 * V + dvN (tp.getD (a + i) 0) := by rw [nvF, hV]
    rw [hV] at hle ⊢
    iterate 2 refine ab_s rfl ?_
    refine jN_ge rfl rfl rfl rfl (by omega) (by omega) (fun h8 => absurd h8 (by omega)) (fun h8 => ?_)
    refine ab_s rfl ?_
    refine ab_k (y := 999) rfl rfl ?_
    refine jN_gt (b := 999) rfl rfl rfl rfl (by omega) (by omega) (fun h15 => ?_) (fun h15 => ?_)
    · refine ab_s rfl ?_
      have hst := nv_stay (tp := tp) (a := a) (k := i) (by rw [hV]; exact h15) (e - a - i)
      rw [show i + (e - a - i) = e - a by omega, hV] at hst
      exact ab_ri rfl (congrArg nI hst.symm)
    · refine ab_k (y := 10) rfl rfl ?_
      refine ab_s rfl ?_
      refine ab_Nmul (a := 10) rfl rfl rfl ?_
      refine ab_s rfl ?_
      refine ab_gf rfl rfl rfl t0 rfl ?_
      refine ab_s rfl ?_
      refine ab_c rfl (x_cell t1 (by omega) (j := a + i) (by omega)) ?_
      refine ab_t hx ?_
      refine ab_n (st2 := [_, _]) rfl ?_
      refine ab_Nadd rfl rfl rfl ?_
      refine ab_k (y := 48) rfl rfl ?_
      refine ab_Nsub (b := 48) rfl rfl rfl (by omega) ?_
      refine ab_s rfl ?_
      refine ab_ii rfl rfl rfl ?_
      refine ab_s rfl ?_
      exact ih _ (by rw [hs, if_neg h15, show 10 * V + dvN (tp.getD (a + i) 0) = 10 * V + (48 + dvN (tp.getD (a + i) 0)) - 48 by omega]; rfl)
  · obtain rfl := hJ
    iterate 2 refine ab_s rfl ?_
    refine jN_ge rfl rfl rfl rfl (by omega) (by omega) (fun h8 => ?_) (fun h8 => absurd (by omega) h8)
    refine ab_s rfl ?_
    exact ab_ri rfl rfl
set_option maxRecDepth 100000 in
set_option maxHeartbeats 4000000 in
theorem x_isWritten (t0 : w[39]? = some (.inl (4, [.ref 40, .int (nI tn), .ref 41, .ref 42, .ref 43, .int tk, .int hr]))) (t1 : w[40]? = some (.inr tp)) (tl : tp.length = 120) (htn : tn ≤ 120) {j : Nat} (hj : j < 17) {a e : Nat} (hae : a ≤ e) (he : e ≤ tn) : ab_M X kX4_isWritten [.ref 39, .retAddr (10 + j), .int (nI a), .int (nI e)] w (some (.int (z01 (isWd tp a e j)))) w := by
  show ab_G X kX4_isWritten 0 [some (.ref 39), some (.retAddr (10 + j)), some (.int (nI a)), some (.int (nI e)), none] [] w _ _
  have hl8 := wd_len j hj
  refine ab_s rfl ?_
  refine ab_cvs rfl rfl rfl rfl (J_ok hj) rfl (x_strlen hj) ?_
  refine ab_n (st2 := [_]) rfl ?_
  iterate 2 refine ab_s rfl ?_
  refine ab_Nsub rfl rfl rfl (by omega) ?_
  refine jN_eq rfl rfl rfl rfl (by omega) (by omega) (fun h7 => ?_) (fun h7 => ?_)
  · refine ab_k (y := 0) rfl rfl ?_
    refine ab_s rfl ?_
    refine g_loop0 (wdL j).length (fun i ls => ls = [some (.ref 39), some (.retAddr (10 + j)), some (.int (nI a)), some (.int (nI e)), some (.int (nI i))] ∧ ∀ y, y < i → tp.getD (a + y) 0 = (wdL j).getD y 0) ⟨rfl, fun y hy => absurd hy (by omega)⟩ (fun i ls hi hJ ih => ?_) (fun ls hJ => ?_)
    · obtain ⟨rfl, hq⟩ := hJ
      iterate 2 refine ab_s rfl ?_
      refine ab_cvs rfl rfl rfl rfl (J_ok hj) rfl (x_strlen hj) ?_
      refine ab_n (st2 := [_, _]) rfl ?_
      refine jN_ge rfl rfl rfl rfl (by omega) (by omega) (fun h21 => absurd h21 (by omega)) (fun h21 => ?_)
      iterate 2 refine ab_s rfl ?_
      refine ab_cvs rfl rfl rfl rfl (J_ok hj) rfl (x_charAt hj hi) ?_
      refine ab_n (st2 := [_]) rfl ?_
      refine ab_s rfl ?_
      refine ab_gf rfl rfl rfl t0 rfl ?_
      iterate 2 refine ab_s rfl ?_
      refine ab_Nadd rfl rfl rfl ?_
      refine ab_c rfl (x_cell t1 (by omega) (j := a + i) (by omega)) ?_
      refine ab_n (st2 := [_, _]) rfl ?_
      refine j2_eq rfl rfl (fun h41 => ?_) (fun h41 => ?_)
      · refine ab_ii rfl rfl rfl ?_
        refine ab_s rfl ?_
        refine ih _ ⟨rfl, fun y hy => ?_⟩
        by_cases e2 : y = i
        · rw [e2]; exact h41.symm
        · exact hq y (by omega)
      · refine ab_k (y := 0) rfl rfl ?_
        exact ab_rb rfl rfl (Or.inl rfl) (by
          have e3 : anyR (fun y => !decide (tp.getD (a + y) 0 = (wdL j).getD y 0)) (wdL j).length = true := by
            rw [anyR_iff]
            exact ⟨i, hi, by rw [decide_eq_false (fun q => h41 q.symm)]; rfl⟩
          unfold isWd
          rw [e3, Bool.not_true, Bool.and_false]
          rfl)
    · obtain ⟨rfl, hq⟩ := hJ
      iterate 2 refine ab_s rfl ?_
      refine ab_cvs rfl rfl rfl rfl (J_ok hj) rfl (x_strlen hj) ?_
      refine ab_n (st2 := [_, _]) rfl ?_
      refine jN_ge rfl rfl rfl rfl (by omega) (by omega) (fun h21 => ?_) (fun h21 => absurd (by omega) h21)
      refine ab_k (y := 1) rfl rfl ?_
      exact ab_rb rfl rfl (Or.inr rfl) (by
        have e3 : anyR (fun y => !decide (tp.getD (a + y) 0 = (wdL j).getD y 0)) (wdL j).length = false := by
          rw [Bool.eq_false_iff, ne_eq, anyR_iff]
          rintro ⟨y, hy, q⟩
          rw [decide_eq_true (hq y hy)] at q
          cases q
        unfold isWd
        rw [e3, decide_eq_true h7.symm]
        rfl)
  · refine ab_k (y := 0) rfl rfl ?_
    exact ab_rb rfl rfl (Or.inl rfl) (by unfold isWd; rw [decide_eq_false (fun q => h7 q.symm)]; rfl)
set_option maxRecDepth 100000 in
set_option maxHeartbeats 4000000 in
theorem x_wordBetween (t0 : w[39]? = some (.inl (4, [.ref 40, .int (nI tn), .ref 41, .ref 42, .ref 43, .int tk, .int hr]))) (t1 : w[40]? = some (.inr tp)) (tl : tp.length = 120) (htn : tn ≤ 120) {a e : Nat} (hae : a ≤ e) (he : e ≤ tn) : ab_M X kX4_wordBetween [.ref 39, .int (nI a), .int (nI e)] w (some (.int (wdI tp a e))) w := by
  show ab_G X kX4_wordBetween 0 [some (.ref 39), some (.int (nI a)), some (.int (nI e)), none] [] w _ _
  refine ab_k (y := 0) rfl rfl ?_
  refine ab_s rfl ?_
  refine g_loop0 17 (fun i ls => ls = [some (.ref 39), some (.int (nI a)), some (.int (nI e)), some (.int (nI i))] ∧ ∀ y, y < i → isWd tp a e y = false) ⟨rfl, fun y hy => absurd hy (by omega)⟩ (fun i ls hi hJ ih => ?_) (fun ls hJ => ?_)
  · obtain ⟨rfl, hq⟩ := hJ
    refine ab_s rfl ?_
    refine ab_k (y := 17) rfl rfl ?_
    refine jN_ge (b := 17) rfl rfl rfl rfl (by omega) (by omega) (fun h5 => absurd h5 (by omega)) (fun h5 => ?_)
    iterate 2 refine ab_s rfl ?_
    refine ab_c rfl (x_letters hi) ?_
    refine ab_n (st2 := [_, _]) rfl ?_
    iterate 2 refine ab_s rfl ?_
    refine ab_cv rfl rfl rfl t0 rfl rfl (x_isWritten t0 t1 tl htn hi hae he) ?_
    refine ab_n (st2 := [_]) rfl ?_
    refine z1_eq rfl rfl (fun h18 => ?_) (fun h18 => ?_)
    · refine ab_ii rfl rfl rfl ?_
      refine ab_s rfl ?_
      refine ih _ ⟨rfl, fun y hy => ?_⟩
      by_cases e2 : y = i
      · rw [e2]; exact h18
      · exact hq y (by omega)
    · refine ab_s rfl ?_
      exact ab_ri rfl (by
        have e3 : lst (isWd tp a e) 17 = i := by
          have h1 := lst_lt (m := 17) hi h18
          rcases Nat.lt_or_ge (lst (isWd tp a e) 17) i with q | q
          · have h2 := hq _ q
            rw [lst_yes (p := isWd tp a e) (m := 17) (by omega)] at h2
            cases h2
          · omega
        unfold wdI
        rw [e3, if_pos hi])
  · obtain ⟨rfl, hq⟩ := hJ
    refine ab_s rfl ?_
    refine ab_k (y := 17) rfl rfl ?_
    refine jN_ge (b := 17) rfl rfl rfl rfl (by omega) (by omega) (fun h5 => ?_) (fun h5 => absurd (by omega) h5)
    refine ab_k (y := (-1)) rfl rfl ?_
    exact ab_ri rfl (by
      unfold wdI
      rw [if_neg (fun q => by
        have h2 := hq _ q
        rw [lst_yes q] at h2
        cases h2)])
set_option maxRecDepth 100000 in
set_option maxHeartbeats 4000000 in
theorem x_addToken {i : Nat} (hi : i < 121) (T : TokW w tp tn (nI i) hr A B C) (so va pl : Int32) : ab_Q X kX4_addToken [.ref 39, .int so, .int va, .int pl] w (fun v w1 => v = none ∧ TokW w1 tp tn (nI (i + 1)) hr (A.set i so) (B.set i va) (C.set i pl) ∧ ∀ j, (j < 39 ∨ 44 ≤ j) → w1[j]? = w[j]?) := by
  obtain ⟨t0, t1, t2, t3, t4, tl, htn, al, bl, cl⟩ := T
  show ab_H X kX4_addToken 0 [some (.ref 39), some (.int so), some (.int va), some (.int pl)] [] w _
  refine h_s rfl ?_
  refine h_gf rfl rfl rfl t0 rfl ?_
  refine h_s rfl ?_
  refine h_gf rfl rfl rfl t0 rfl ?_
  refine h_s rfl ?_
  refine hq_c rfl (x_put t2 (by omega) (j := i) (by omega) _) (fun v1 w1 q1 => ?_)
  obtain ⟨rfl, e1, f1⟩ := q1
  have t0 := (f1 39 (by decide)).trans t0
  have t3 := (f1 42 (by decide)).trans t3
  have t4 := (f1 43 (by decide)).trans t4
  refine h_n (st2 := []) rfl ?_
  refine h_s rfl ?_
  refine h_gf rfl rfl rfl t0 rfl ?_
  refine h_s rfl ?_
  refine h_gf rfl rfl rfl t0 rfl ?_
  refine h_s rfl ?_
  refine hq_c rfl (x_put t3 (by omega) (j := i) (by omega) _) (fun v2 w2 q2 => ?_)
  obtain ⟨rfl, e2, f2⟩ := q2
  have t0 := (f2 39 (by decide)).trans t0
  have t4 := (f2 43 (by decide)).trans t4
  refine h_n (st2 := []) rfl ?_
  refine h_s rfl ?_
  refine h_gf rfl rfl rfl t0 rfl ?_
  refine h_s rfl ?_
  refine h_gf rfl rfl rfl t0 rfl ?_
  refine h_s rfl ?_
  refine hq_c rfl (x_put t4 (by omega) (j := i) (by omega) _) (fun v3 w3 q3 => ?_)
  obtain ⟨rfl, e3, f3⟩ := q3
  have t0 := (f3 39 (by decide)).trans t0
  refine h_n (st2 := []) rfl ?_
  iterate 2 refine h_s rfl ?_
  refine h_gf rfl rfl rfl t0 rfl ?_
  refine h_k (y := 1) rfl rfl ?_
  refine h_Nadd (b := 1) rfl rfl rfl ?_
  refine h_pf rfl rfl t0 rfl (fun w5 e5 f5 => ?_)
  exact h_r rfl ⟨rfl, ⟨e5, (f5 40 (by decide)).trans ((f3 40 (by decide)).trans ((f2 40 (by decide)).trans ((f1 40 (by decide)).trans t1))), (f5 41 (by decide)).trans ((f3 41 (by decide)).trans ((f2 41 (by decide)).trans e1)), (f5 42 (by decide)).trans ((f3 42 (by decide)).trans e2), (f5 43 (by decide)).trans e3, tl, htn, by rw [List.length_set]; exact al, by rw [List.length_set]; exact bl, by rw [List.length_set]; exact cl⟩, fun j hj => (f5 j (by omega)).trans ((f3 j (by omega)).trans ((f2 j (by omega)).trans (f1 j (by omega))))⟩
theorem TokD.next {i : Nat} (D : TokD tp tn A B C i) (al : A.length = 121) (bl : B.length = 121) (cl : C.length = 121) (hi : i < 121) {so va pl : Int32} (e1 : so = nI (tsN tp tn (tP tp tn i))) (e2 : va = tvI tp tn (tP tp tn i)) (e3 : pl = nI (tP tp tn i)) : TokD tp tn (A.set i so) (B.set i va) (C.set i pl) (i + 1) := by
  intro j hj
  rw [gD_set _ _ _ _ (by omega), gD_set _ _ _ _ (by omega), gD_set _ _ _ _ (by omega)]
  by_cases e : j = i
  · rw [if_pos e, if_pos e, if_pos e, e]
    exact ⟨e1, e2, e3⟩
  · rw [if_neg e, if_neg e, if_neg e]
    exact D j (by omega)
set_option maxRecDepth 100000 in
set_option maxHeartbeats 4000000 in
theorem x_addTokenAt {i a : Nat} (hi : i < 121) (T : TokW w tp tn (nI i) hr A B C) (D : TokD tp tn A B C i) (ha : a < tn) (hai : tP tp tn i = a) : ab_Q X kX4_addTokenAt [.ref 39, .int (nI a)] w (fun v w1 => v = some (.int (nI (tkE tp tn a))) ∧ (∃ A B C, TokW w1 tp tn (nI (i + 1)) hr A B C ∧ TokD tp tn A B C (i + 1)) ∧ ∀ j, (j < 39 ∨ 44 ≤ j) → w1[j]? = w[j]?) := by
  have T0 := T
  obtain ⟨t0, t1, t2, t3, t4, tl, htn, al, bl, cl⟩ := T0
  have hl1 := run_le (p := ltB) (tp := tp) (show a ≤ tn by omega)
  have hl2 := run_le (p := dgB) (tp := tp) (show a ≤ tn by omega)
  obtain ⟨L1, hL1⟩ : ∃ L1, runE ltB tp tn a = L1 := ⟨_, rfl⟩
  obtain ⟨L2, hL2⟩ : ∃ L2, runE dgB tp tn a = L2 := ⟨_, rfl⟩
  rw [hL1] at hl1
  rw [hL2] at hl2
  have hg1 : a < L1 ↔ ltB (tp.getD a 0) = true := by
    rw [← hL1]
    constructor
    · intro q
      exact ((run_ok (p := ltB)).2.1 a (Nat.le_refl _) q).2
    · exact run_gt ha
  have hg2 : a < L2 ↔ dgB (tp.getD a 0) = true := by
    rw [← hL2]
    constructor
    · intro q
      exact ((run_ok (p := dgB)).2.1 a (Nat.le_refl _) q).2
    · exact run_gt ha
  have hdg : ∀ j, a ≤ j → j < L2 → dgB (tp.getD j 0) = true := fun j h1 h2 => ((run_ok (p := dgB) (tp := tp) (tn := tn) (a := a)).2.1 j h1 (by rw [hL2]; exact h2)).2
  have hnv := nv_le (tp := tp) (a := a) (k := L2 - a) (fun j hj => hdg (a + j) (by omega) (by omega))
  show ab_H X kX4_addTokenAt 0 [some (.ref 39), some (.int (nI a)), none, none] [] w _
  refine h_s rfl ?_
  refine h_k (y := 97) rfl rfl ?_
  refine h_k (y := 122) rfl rfl ?_
  refine h_s rfl ?_
  refine h_cv rfl rfl rfl t0 rfl rfl (x_endOf t0 t1 tl htn (p := ltB) (fun _ => rfl) (a := a) (by omega)) ?_
  refine h_n (st2 := [_]) rfl ?_
  rw [hL1]
  iterate 3 refine h_s rfl ?_
  refine hN_le rfl rfl rfl rfl (by omega) (by omega) (fun h12 => ?_) (fun h12 => ?_)
  · refine h_s rfl ?_
    refine h_k (y := 48) rfl rfl ?_
    refine h_k (y := 57) rfl rfl ?_
    refine h_s rfl ?_
    refine h_cv rfl rfl rfl t0 rfl rfl (x_endOf t0 t1 tl htn (p := dgB) (fun _ => rfl) (a := a) (by omega)) ?_
    refine h_n (st2 := [_]) rfl ?_
    rw [hL2]
    iterate 3 refine h_s rfl ?_
    refine hN_le rfl rfl rfl rfl (by omega) (by omega) (fun h41 => ?_) (fun h41 => ?_)
    · iterate 2 refine h_s rfl ?_
      refine h_gf rfl rfl rfl t0 rfl ?_
      refine h_s rfl ?_
      refine h_c rfl (x_cell t1 (by omega) (j := a) (by omega)) ?_
      refine h_n (st2 := [_, _]) rfl ?_
      refine h_k (y := 59) rfl rfl ?_
      refine h2_ne rfl rfl (fun h82 => ?_) (fun h82 => ?_)
      · refine h_k (y := 4) rfl rfl ?_
        refine h_k (y := 0) rfl rfl ?_
        refine h_s rfl ?_
        refine hq_v rfl rfl rfl t0 rfl rfl (x_addToken hi T _ _ _) (fun v1 w1 q1 => ?_)
        obtain ⟨rfl, T1, f1⟩ := q1
        refine h_n (st2 := []) rfl ?_
        refine h_s rfl ?_
        refine h_k (y := 1) rfl rfl ?_
        refine h_Nadd (b := 1) rfl rfl rfl ?_
        refine h_ri rfl rfl ⟨?_, ⟨_, _, _, T1, D.next al bl cl hi ?_ ?_ (by rw [hai])⟩, f1⟩
        · unfold tkE; rw [if_pos ha, if_neg (fun q => by have := hg1.mpr q; omega), if_neg (fun q => by have := hg2.mpr q; omega)]
        · rw [hai]; unfold tsN; rw [if_pos ha, if_neg (fun q => by have := hg1.mpr q; omega), if_neg (fun q => by have := hg2.mpr q; omega), if_neg h82]; rfl
        · rw [hai]; unfold tvI; rw [if_pos ha, if_neg (fun q => by have := hg1.mpr q; omega), if_neg (fun q => by have := hg2.mpr q; omega)]
      · refine h_k (y := 3) rfl rfl ?_
        refine h_s rfl ?_
        refine h_k (y := 0) rfl rfl ?_
        refine h_s rfl ?_
        refine hq_v rfl rfl rfl t0 rfl rfl (x_addToken hi T _ _ _) (fun v1 w1 q1 => ?_)
        obtain ⟨rfl, T1, f1⟩ := q1
        refine h_n (st2 := []) rfl ?_
        refine h_s rfl ?_
        refine h_k (y := 1) rfl rfl ?_
        refine h_Nadd (b := 1) rfl rfl rfl ?_
        refine h_ri rfl rfl ⟨?_, ⟨_, _, _, T1, D.next al bl cl hi ?_ ?_ (by rw [hai])⟩, f1⟩
        · unfold tkE; rw [if_pos ha, if_neg (fun q => by have := hg1.mpr q; omega), if_neg (fun q => by have := hg2.mpr q; omega)]
        · rw [hai]; unfold tsN; rw [if_pos ha, if_neg (fun q => by have := hg1.mpr q; omega), if_neg (fun q => by have := hg2.mpr q; omega), if_pos h82]; rfl
        · rw [hai]; unfold tvI; rw [if_pos ha, if_neg (fun q => by have := hg1.mpr q; omega), if_neg (fun q => by have := hg2.mpr q; omega)]
    · iterate 3 refine h_s rfl ?_
      refine h_cv rfl rfl rfl t0 rfl rfl (x_numberBetween t0 t1 tl htn (a := a) (e := L2) (by omega) (by omega) hdg) ?_
      refine h_n (st2 := [_]) rfl ?_
      iterate 3 refine h_s rfl ?_
      refine h_k (y := 999) rfl rfl ?_
      refine hN_le (b := 999) rfl rfl rfl rfl (by omega) (by omega) (fun h56 => ?_) (fun h56 => ?_)
      · refine h_k (y := 2) rfl rfl ?_
        iterate 2 refine h_s rfl ?_
        refine hq_v rfl rfl rfl t0 rfl rfl (x_addToken hi T _ _ _) (fun v1 w1 q1 => ?_)
        obtain ⟨rfl, T1, f1⟩ := q1
        refine h_n (st2 := []) rfl ?_
        refine h_s rfl ?_
        refine h_ri rfl rfl ⟨?_, ⟨_, _, _, T1, D.next al bl cl hi ?_ ?_ (by rw [hai])⟩, f1⟩
        · unfold tkE; rw [if_pos ha, if_neg (fun q => by have := hg1.mpr q; omega), if_pos (hg2.mp (by omega)), hL2]
        · rw [hai]; unfold tsN; rw [if_pos ha, if_neg (fun q => by have := hg1.mpr q; omega), if_pos (hg2.mp (by omega)), hL2, if_neg (by omega)]; rfl
        · rw [hai]; unfold tvI; rw [if_pos ha, if_neg (fun q => by have := hg1.mpr q; omega), if_pos (hg2.mp (by omega)), hL2]
      · refine h_k (y := 4) rfl rfl ?_
        iterate 3 refine h_s rfl ?_
        refine hq_v rfl rfl rfl t0 rfl rfl (x_addToken hi T _ _ _) (fun v1 w1 q1 => ?_)
        obtain ⟨rfl, T1, f1⟩ := q1
        refine h_n (st2 := []) rfl ?_
        refine h_s rfl ?_
        refine h_ri rfl rfl ⟨?_, ⟨_, _, _, T1, D.next al bl cl hi ?_ ?_ (by rw [hai])⟩, f1⟩
        · unfold tkE; rw [if_pos ha, if_neg (fun q => by have := hg1.mpr q; omega), if_pos (hg2.mp (by omega)), hL2]
        · rw [hai]; unfold tsN; rw [if_pos ha, if_neg (fun q => by have := hg1.mpr q; omega), if_pos (hg2.mp (by omega)), hL2, if_pos (by omega)]; rfl
        · rw [hai]; unfold tvI; rw [if_pos ha, if_neg (fun q => by have := hg1.mpr q; omega), if_pos (hg2.mp (by omega)), hL2]
  · refine h_s rfl ?_
    refine h_k (y := 1) rfl rfl ?_
    iterate 3 refine h_s rfl ?_
    refine h_cv rfl rfl rfl t0 rfl rfl (x_wordBetween t0 t1 tl htn (a := a) (e := L1) (by omega) (by omega)) ?_
    refine h_n (st2 := [_, _, _]) rfl ?_
    refine h_s rfl ?_
    refine hq_v rfl rfl rfl t0 rfl rfl (x_addToken hi T _ _ _) (fun v1 w1 q1 => ?_)
    obtain ⟨rfl, T1, f1⟩ := q1
    refine h_n (st2 := []) rfl ?_
    refine h_s rfl ?_
    refine h_ri rfl rfl ⟨?_, ⟨_, _, _, T1, D.next al bl cl hi ?_ ?_ (by rw [hai])⟩, f1⟩
    · unfold tkE; rw [if_pos ha, if_pos (hg1.mp (by omega)), hL1]
    · rw [hai]; unfold tsN; rw [if_pos ha, if_pos (hg1.mp (by omega))]; rfl
    · rw [hai]; unfold tvI; rw [if_pos ha, if_pos (hg1.mp (by omega)), hL1]
set_option maxRecDepth 100000 in
set_option maxHeartbeats 4000000 in
theorem x_findTokens (T : TokW w tp tn tk hr A B C) : ab_Q X kX4_findTokens [.ref 39] w (fun v w1 => v = none ∧ ∃ m, m ≤ 120 ∧ tP tp tn m = tn ∧ (∀ j, j < m → tP tp tn j < tn) ∧ (∃ A B C, TokW w1 tp tn (nI (m + 1)) hr A B C ∧ TokD tp tn A B C (m + 1)) ∧ ∀ j, (j < 39 ∨ 44 ≤ j) → w1[j]? = w[j]?) := by
  obtain ⟨t0, t1, t2, t3, t4, tl, htn, al, bl, cl⟩ := T
  show ab_H X kX4_findTokens 0 [some (.ref 39), none, none] [] w _
  refine h_s rfl ?_
  refine h_k (y := 0) rfl rfl ?_
  refine h_pf rfl rfl t0 rfl (fun w5 e5 f5 => ?_)
  have t0 := e5
  refine h_k (y := 0) rfl rfl ?_
  refine h_s rfl ?_
  refine h_k (y := 0) rfl rfl ?_
  refine h_s rfl ?_
  refine h_loop0 120 (fun k ls v => ∃ a i A B C, ls = [some (.ref 39), some (.int (nI a)), some (.int (nI k))] ∧ TokW v tp tn (nI i) hr A B C ∧ TokD tp tn A B C i ∧ a ≤ tn ∧ k ≤ a ∧ i ≤ k ∧ spE tp tn a = tP tp tn i ∧ (∀ j, j < i → tP tp tn j < tn) ∧ ∀ j, (j < 39 ∨ 44 ≤ j) → v[j]? = w[j]?) ⟨0, 0, A, B, C, rfl, ⟨e5, (f5 40 (by decide)).trans t1, (f5 41 (by decide)).trans t2, (f5 42 (by decide)).trans t3, (f5 43 (by decide)).trans t4, tl, htn, al, bl, cl⟩, fun j hj => absurd hj (by omega), by omega, by omega, by omega, rfl, fun j hj => absurd hj (by omega), fun j hj => f5 j (by omega)⟩ (fun k ls v hk hJ ih => ?_) (fun ls v hJ => ?_)
  · obtain ⟨a, i, A, B, C, rfl, T, D, hatn, hka, hik, hsp, hno, F⟩ := hJ
    have t0 := T.1
    have t1 := T.2.1
    have tl := T.2.2.2.2.2.1
    have hi : i < 121 := by omega
    refine h_s rfl ?_
    refine h_k (y := 120) rfl rfl ?_
    refine hN_ge (b := 120) rfl rfl rfl rfl (by omega) (by omega) (fun h12 => absurd h12 (by omega)) (fun h12 => ?_)
    iterate 2 refine h_s rfl ?_
    refine h_gf rfl rfl rfl t0 rfl ?_
    refine hN_ge rfl rfl rfl rfl (by omega) (by omega) (fun h20 => ?_) (fun h20 => ?_)
    · refine h_s rfl ?_
      refine h_k (y := 0) rfl rfl ?_
      refine h_k (y := 0) rfl rfl ?_
      refine h_s rfl ?_
      refine h_gf rfl rfl rfl t0 rfl ?_
      refine hq_v rfl rfl rfl T.1 rfl rfl (x_addToken (show i < 121 by omega) T 0 0 (nI tn)) (fun v1 w1 q1 => ?_)
      obtain ⟨rfl, T1, f1⟩ := q1
      refine h_n (st2 := []) rfl ?_
      have hat : a = tn := by omega
      have hPi : tP tp tn i = tn := by
        rw [← hsp, hat]
        exact run_no (by omega)
      exact h_r rfl ⟨rfl, i, by omega, hPi, hno, ⟨_, _, _, T1, D.next T.2.2.2.2.2.2.2.1 T.2.2.2.2.2.2.2.2.1 T.2.2.2.2.2.2.2.2.2 (by omega) (by rw [hPi]; unfold tsN; rw [if_neg (by omega)]; rfl) (by rw [hPi]; unfold tvI; rw [if_neg (by omega)]) (by rw [hPi])⟩, fun j hj => (f1 j hj).trans (F j hj)⟩
    · refine h_s rfl ?_
      refine h_gf rfl rfl rfl t0 rfl ?_
      refine h_s rfl ?_
      refine h_c rfl (x_cell t1 (by omega) (j := a) (by omega)) ?_
      refine h_n (st2 := [_]) rfl ?_
      refine h_k (y := 32) rfl rfl ?_
      refine h2_ne rfl rfl (fun h33 => ?_) (fun h33 => ?_)
      · iterate 2 refine h_s rfl ?_
        refine h_n rfl ?_
        have hns : ¬ spB (tp.getD a 0) = true := fun q => h33 (of_decide_eq_true q)
        have hsa : spE tp tn a = a := run_no (fun q => hns q.2)
        refine hq_v rfl rfl rfl t0 rfl rfl (x_addTokenAt hi T D (show a < tn by omega) (by rw [← hsp, hsa])) (fun v1 w1 q1 => ?_)
        obtain ⟨rfl, ⟨A, B, C, T1, D1⟩, f1⟩ := q1
        have hgt := tk_gt (tp := tp) (show a < tn by omega)
        have hle := tk_le (tp := tp) hatn
        refine h_n (st2 := [_]) rfl ?_
        refine h_s rfl ?_
        refine h_ii rfl rfl rfl ?_
        refine h_s rfl ?_
        refine ih _ _ ⟨tkE tp tn a, i + 1, A, B, C, rfl, T1, D1, hle, by omega, by omega, ?_, fun j hj => ?_, fun j hj => (f1 j hj).trans (F j hj)⟩
        · show spE tp tn (tkE tp tn a) = spE tp tn (tkE tp tn (tP tp tn i))
          rw [← hsp, hsa]
        · by_cases e : j = i
          · rw [e, ← hsp, hsa]; omega
          · exact hno j (by omega)
      · refine h_ii rfl rfl rfl ?_
        refine h_s rfl ?_
        refine h_ii rfl rfl rfl ?_
        refine h_s rfl ?_
        refine ih _ _ ⟨a + 1, i, A, B, C, rfl, T, D, by omega, by omega, by omega, ?_, hno, F⟩
        rw [← hsp]
        exact run_s (by omega) (decide_eq_true h33)
  · obtain ⟨a, i, A, B, C, rfl, T, D, hatn, hka, hik, hsp, hno, F⟩ := hJ
    have t0 := T.1
    have hi : i < 121 := by omega
    refine h_s rfl ?_
    refine h_k (y := 120) rfl rfl ?_
    refine hN_ge (b := 120) rfl rfl rfl rfl (by omega) (by omega) (fun h12 => ?_) (fun h12 => absurd (by omega) h12)
    refine h_s rfl ?_
    refine h_k (y := 0) rfl rfl ?_
    refine h_k (y := 0) rfl rfl ?_
    refine h_s rfl ?_
    refine h_gf rfl rfl rfl t0 rfl ?_
    refine hq_v rfl rfl rfl T.1 rfl rfl (x_addToken (show i < 121 by omega) T 0 0 (nI tn)) (fun v1 w1 q1 => ?_)
    obtain ⟨rfl, T1, f1⟩ := q1
    refine h_n (st2 := []) rfl ?_
    have hat : a = tn := by omega
    have hPi : tP tp tn i = tn := by
      rw [← hsp, hat]
      exact run_no (by omega)
    exact h_r rfl ⟨rfl, i, by omega, hPi, hno, ⟨_, _, _, T1, D.next T.2.2.2.2.2.2.2.1 T.2.2.2.2.2.2.2.2.1 T.2.2.2.2.2.2.2.2.2 (by omega) (by rw [hPi]; unfold tsN; rw [if_neg (by omega)]; rfl) (by rw [hPi]; unfold tvI; rw [if_neg (by omega)]) (by rw [hPi])⟩, fun j hj => (f1 j hj).trans (F j hj)⟩
end LX
