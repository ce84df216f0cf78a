/-! TEXT: the reference's tokens -/
def byt (tp : List Int32) (tn a : Nat) : Int32 := if a < tn then tp.getD a 0 else -1
def pB (b1 b2 : Bool) (x : Int32) : Bool := (b1 && ltB x) || (b2 && dgB x)
theorem pB_m (b1 b2 : Bool) : pB b1 b2 (-1) = false := by cases b1 <;> cases b2 <;> decide
theorem byt_lt {tp : List Int32} {tn a : Nat} (h : a < tn) : byt tp tn a = tp.getD a 0 := if_pos h
theorem byt_ge {tp : List Int32} {tn a : Nat} (h : ¬ a < tn) : byt tp tn a = -1 := if_neg h
/-- where the reference's token ends -/
theorem tk_run {tp : List Int32} {tn a : Nat} (h : a ≤ tn) : runE (pB (ltB (byt tp tn a)) (dgB (byt tp tn a))) tp tn (if a < tn then a + 1 else a) = tkE tp tn a := by
  unfold tkE
  by_cases ha : a < tn
  · rw [if_pos ha, if_pos ha, byt_lt ha]
    by_cases h1 : ltB (tp.getD a 0) = true
    · have hd : dgB (tp.getD a 0) = false := by
        unfold ltB at h1
        unfold dgB
        simp only [Bool.and_eq_true, decide_eq_true_eq, le_iff] at h1
        rw [decide_eq_false (p := tp.getD a 0 ≤ 57), Bool.and_false]
        rw [le_iff]
        have q : (97 : Int) ≤ (tp.getD a 0).toInt := h1.1
        show ¬ (tp.getD a 0).toInt ≤ 57
        omega
      rw [if_pos h1, h1, hd, ← run_s ha h1]
      exact congrArg (fun p => runE p tp tn (a + 1)) (funext (fun x => by unfold pB; rw [Bool.false_and, Bool.or_false, Bool.true_and]))
    · rw [if_neg h1, Bool.eq_false_iff.mpr h1]
      by_cases h2 : dgB (tp.getD a 0) = true
      · rw [if_pos h2, h2, ← run_s ha h2]
        exact congrArg (fun p => runE p tp tn (a + 1)) (funext (fun x => by unfold pB; rw [Bool.false_and, Bool.false_or, Bool.true_and]))
      · rw [if_neg h2, Bool.eq_false_iff.mpr h2]
        exact run_no (fun q => by have := q.2; unfold pB at this; rw [Bool.false_and, Bool.false_and] at this; cases this)
  · rw [if_neg ha, if_neg ha]
    exact run_no (fun q => ha q.1)
def l6N (v : Nat) : Int64 := Int64.ofNat v
theorem l6N_i {v : Nat} (h : v < 2 ^ 63) : (l6N v).toInt = v := Int64.toInt_ofNat_of_lt h
theorem l6N_eq {a b : Nat} (ha : a < 2 ^ 63) (hb : b < 2 ^ 63) : l6N a = l6N b ↔ a = b := by
  rw [← Int64.toInt_inj, l6N_i ha, l6N_i hb]
  omega
theorem l6N_lt {a b : Nat} (ha : a < 2 ^ 63) (hb : b < 2 ^ 63) : l6N a < l6N b ↔ a < b := by
  rw [Int64.lt_iff_toInt_lt, l6N_i ha, l6N_i hb]
  omega
theorem l6N_s (v c : Nat) : l6N 32 * l6N v + l6N c = l6N (32 * v + c) := by
  unfold l6N
  rw [Int64.ofNat_add, Int64.ofNat_mul]
theorem cmp_0 {a b : Int64} : lg_cmp a b = 0 ↔ a = b := by
  unfold lg_cmp
  constructor
  · intro h
    split at h
    · cases h
    · split at h
      · assumption
      · cases h
  · intro h
    subst h
    rw [if_neg (show ¬ a < a by rw [Int64.lt_iff_toInt_lt]; omega), if_pos rfl]
theorem cmp_p {a b : Int64} : 0 < lg_cmp a b ↔ b < a := by
  unfold lg_cmp
  split
  · rename_i h; exact ⟨fun _ => h, fun _ => by decide⟩
  · rename_i h
    split
    · exact ⟨fun q => absurd q (by decide), fun q => absurd q h⟩
    · exact ⟨fun q => absurd q (by decide), fun q => absurd q h⟩
/-- the letters of a word, as numbers -/
def ltC (x : Int32) : Nat := (x - 96).toNatClampNeg
theorem lt_c {x : Int32} (h : ltB x = true) : 1 ≤ ltC x ∧ ltC x ≤ 26 ∧ x = nI (96 + ltC x) := by
  unfold ltB at h
  simp only [Bool.and_eq_true, decide_eq_true_eq, le_iff] at h
  obtain ⟨h1, h2⟩ := h
  have h1 : (97 : Int) ≤ x.toInt := h1
  have h2 : x.toInt ≤ 122 := h2
  have e : x = nI (96 + (x.toInt.toNat - 96)) := by
    apply Int32.toInt_inj.mp
    rw [nI_toInt (by omega)]
    omega
  have k : ∀ c, c ≤ 26 → ltC (nI (96 + c)) = c := by decide
  have e2 : ltC x = x.toInt.toNat - 96 := by
    have := k (x.toInt.toNat - 96) (by omega)
    rw [← e] at this
    exact this
  rw [e2]
  exact ⟨by omega, by omega, e⟩
theorem lt_64 : ∀ c, c ≤ 26 → (nI (96 + c) - 96).toInt64 = l6N c := by decide
def encN (g : Nat → Nat) : Nat → Nat
  | 0 => 0
  | k + 1 => 32 * encN g k + g k
/-- as the reference makes it: it stops when it is too high -/
def wvN (g : Nat → Nat) : Nat → Nat
  | 0 => 0
  | k + 1 => if 36028797018963967 < wvN g k then wvN g k else 32 * wvN g k + g k
theorem wv_le {g : Nat → Nat} (hg : ∀ i, g i ≤ 26) : ∀ k, wvN g k ≤ 36028797018963967 * 32 + 26
  | 0 => Nat.zero_le _
  | k + 1 => by
    have := wv_le hg k
    have := hg k
    rw [wvN]
    split <;> omega
theorem wv_enc {g : Nat → Nat} : ∀ k, wvN g k ≤ 36028797018963967 ∨ encN g k ≤ 36028797018963967 → wvN g k = encN g k
  | 0, _ => rfl
  | k + 1, h => by
    rw [wvN, encN] at h ⊢
    by_cases q : 36028797018963967 < wvN g k
    · rw [if_pos q] at h ⊢
      have h2 : encN g k ≤ 36028797018963967 := by omega
      have := wv_enc k (Or.inr h2)
      omega
    · rw [if_neg q] at h ⊢
      rw [wv_enc k (Or.inl (by omega))]
theorem wv_c {g g' : Nat → Nat} : ∀ k, (∀ i, i < k → g i = g' i) → wvN g k = wvN g' k
  | 0, _ => rfl
  | k + 1, h => by rw [wvN, wvN, wv_c k (fun i hi => h i (by omega)), h k (by omega)]
theorem enc_c {g g' : Nat → Nat} : ∀ k, (∀ i, i < k → g i = g' i) → encN g k = encN g' k
  | 0, _ => rfl
  | k + 1, h => by rw [encN, encN, enc_c k (fun i hi => h i (by omega)), h k (by omega)]
theorem enc_inj {g g' : Nat → Nat} : ∀ k k', (∀ i, i < k → 1 ≤ g i ∧ g i ≤ 26) → (∀ i, i < k' → 1 ≤ g' i ∧ g' i ≤ 26) → encN g k = encN g' k' → k = k' ∧ ∀ i, i < k → g i = g' i
  | 0, 0, _, _, _ => ⟨rfl, fun i hi => absurd hi (by omega)⟩
  | 0, k' + 1, _, h', e => by
    have := h' k' (by omega)
    rw [encN, encN] at e
    omega
  | k + 1, 0, h, _, e => by
    have := h k (by omega)
    rw [encN, encN] at e
    omega
  | k + 1, k' + 1, h, h', e => by
    have h1 := h k (by omega)
    have h2 := h' k' (by omega)
    rw [encN, encN] at e
    obtain ⟨e1, e2⟩ := enc_inj k k' (fun i hi => h i (by omega)) (fun i hi => h' i (by omega)) (by omega)
    subst e1
    refine ⟨rfl, fun i hi => ?_⟩
    by_cases q : i = k
    · rw [q]; omega
    · exact e2 i (by omega)
/-- the words' numbers -/
def wdN (j : Nat) : Nat := [8902245, 659104884, 508078, 9678, 8029764, 631915, 18959911084, 398548, 19176724, 215533, 655, 665893475923, 12748485, 212147, 146930, 2212, 302].getD j 0
theorem wd_enc : ∀ j, j < 17 → encN (fun i => ltC ((wdL j).getD i 0)) (wdL j).length = wdN j ∧ (∀ i, i < (wdL j).length → ltB ((wdL j).getD i 0) = true) ∧ wdN j < 36028797018963967 ∧ 0 < wdN j := by decide +kernel
/-- the word's number tells the word -/
theorem wv_is {tp : List Int32} {a e j : Nat} (hj : j < 17) (hae : a ≤ e) (hl : ∀ i, a ≤ i → i < e → ltB (tp.getD i 0) = true) : wvN (fun i => ltC (tp.getD (a + i) 0)) (e - a) = wdN j ↔ isWd tp a e j = true := by
  obtain ⟨w1, w2, w3, w4⟩ := wd_enc j hj
  have hg : ∀ i, i < e - a → 1 ≤ ltC (tp.getD (a + i) 0) ∧ ltC (tp.getD (a + i) 0) ≤ 26 := fun i hi => by
    have := lt_c (hl (a + i) (by omega) (by omega))
    exact ⟨this.1, this.2.1⟩
  have hg' : ∀ i, i < (wdL j).length → 1 ≤ ltC ((wdL j).getD i 0) ∧ ltC ((wdL j).getD i 0) ≤ 26 := fun i hi => by
    have := lt_c (w2 i hi)
    exact ⟨this.1, this.2.1⟩
  constructor
  · intro h
    have h1 := wv_enc (g := fun i => ltC (tp.getD (a + i) 0)) (e - a) (Or.inl (by omega))
    rw [h, ← w1] at h1
    obtain ⟨h2, h3⟩ := enc_inj _ _ hg' hg h1
    unfold isWd
    rw [decide_eq_true h2.symm, Bool.true_and, Bool.not_eq_true', Bool.eq_false_iff, ne_eq, anyR_iff]
    rintro ⟨i, hi, q⟩
    have h4 := h3 i hi
    have e1 := (lt_c (hl (a + i) (by omega) (by omega))).2.2
    have e2 := (lt_c (w2 i hi)).2.2
    have e3 : tp.getD (a + i) 0 = (wdL j).getD i 0 := by rw [e1, e2]; exact congrArg (fun c => nI (96 + c)) h4.symm
    rw [decide_eq_true e3] at q
    cases q
  · intro h
    unfold isWd at h
    rw [Bool.and_eq_true, decide_eq_true_eq, Bool.not_eq_true', Bool.eq_false_iff, ne_eq, anyR_iff] at h
    obtain ⟨h1, h2⟩ := h
    have h3 : encN (fun i => ltC (tp.getD (a + i) 0)) (e - a) = wdN j := by
      rw [← w1, h1]
      refine enc_c _ (fun i hi => ?_)
      show ltC (tp.getD (a + i) 0) = ltC ((wdL j).getD i 0)
      by_cases q : tp.getD (a + i) 0 = (wdL j).getD i 0
      · rw [q]
      · exact absurd ⟨i, hi, by rw [decide_eq_false q]; rfl⟩ h2
    rw [wv_enc _ (Or.inr (by rw [h3]; omega)), h3]
/-- no two words are alike -/
theorem wd_un : ∀ j, j < 17 → ∀ k, k < 17 → wdN j = wdN k → j = k := by decide +kernel
theorem isWd_1 {tp : List Int32} {a e j k : Nat} (hj : j < 17) (hk : k < 17) (hae : a ≤ e) (hl : ∀ i, a ≤ i → i < e → ltB (tp.getD i 0) = true) (h1 : isWd tp a e j = true) (h2 : isWd tp a e k = true) : j = k := wd_un j hj k hk (((wv_is hj hae hl).mpr h1).symm.trans ((wv_is hk hae hl).mpr h2))
theorem lst_is {p : Nat → Bool} {m j : Nat} (hj : j < m) (hp : p j = true) (h1 : ∀ k, k < m → p k = true → k = j) : lst p m = j := by
  have h2 := lst_lt (m := m) hj hp
  exact h1 _ (by omega) (lst_yes (p := p) (m := m) (by omega))
theorem lst_iff {tp : List Int32} {a e j : Nat} (hj : j < 17) (hae : a ≤ e) (hl : ∀ i, a ≤ i → i < e → ltB (tp.getD i 0) = true) : lst (isWd tp a e) 17 = j ↔ isWd tp a e j = true := by
  constructor
  · intro h
    rw [← h]
    exact lst_yes (p := isWd tp a e) (m := 17) (by omega)
  · intro h
    exact lst_is hj h (fun k hk q => isWd_1 hk hj hae hl q h)
theorem ts_lt {tp : List Int32} {tn a : Nat} : tsN tp tn a = 1 ↔ ltB (byt tp tn a) = true := by
  unfold tsN
  by_cases h : a < tn
  · rw [if_pos h, byt_lt h]
    constructor
    · intro q
      split at q
      · assumption
      · repeat' split at q
        all_goals cases q
    · intro q
      rw [if_pos q]
  · rw [if_neg h, byt_ge h]
    exact ⟨fun q => (by cases q), fun q => absurd q (by decide)⟩
theorem lt_dg {x : Int32} (h : ltB x = true) : dgB x = false := by
  obtain ⟨h1, h2, h3⟩ := lt_c h
  have k : ∀ c, c ≤ 26 → 1 ≤ c → dgB (nI (96 + c)) = false := by decide
  rw [h3]
  exact k _ h2 h1
theorem ts_dg {tp : List Int32} {tn a : Nat} : dgB (byt tp tn a) = true ↔ tsN tp tn a = 2 ∨ (tsN tp tn a = 4 ∧ dgB (byt tp tn a) = true) := by
  constructor
  · intro q
    unfold tsN
    by_cases h : a < tn
    · rw [if_pos h]
      rw [byt_lt h] at q ⊢
      by_cases h1 : ltB (tp.getD a 0) = true
      · rw [lt_dg h1] at q; cases q
      · rw [if_neg h1, if_pos q]
        split
        · exact Or.inr ⟨rfl, q⟩
        · exact Or.inl rfl
    · rw [byt_ge h] at q
      exact absurd q (by decide)
  · rintro (q | q)
    · unfold tsN at q
      by_cases h : a < tn
      · rw [if_pos h] at q
        rw [byt_lt h]
        split at q
        · cases q
        · split at q
          · assumption
          · split at q
            all_goals cases q
      · rw [if_neg h] at q; cases q
    · exact q.2
theorem ts_sg {tp : List Int32} {tn a : Nat} : tsN tp tn a = 3 ↔ byt tp tn a = 59 := by
  unfold tsN
  by_cases h : a < tn
  · rw [if_pos h, byt_lt h]
    constructor
    · intro q
      split at q
      · cases q
      · split at q
        · split at q
          all_goals cases q
        · split at q
          · assumption
          · cases q
    · intro q
      rw [q]
      rfl
  · rw [if_neg h, byt_ge h]
    exact ⟨fun q => (by cases q), fun q => absurd q (by decide)⟩
theorem tp_end {tp : List Int32} {tn : Nat} (hn : tn ≤ 120) : ∃ m, m ≤ 120 ∧ tP tp tn m = tn ∧ ∀ j, j < m → tP tp tn j < tn := by
  have key : ∀ d, (∃ m, m ≤ d ∧ tP tp tn m = tn ∧ ∀ j, j < m → tP tp tn j < tn) ∨ (d ≤ tP tp tn d ∧ ∀ j, j ≤ d → tP tp tn j < tn) := by
    intro d
    induction d with
    | zero =>
      by_cases h : tP tp tn 0 < tn
      · exact Or.inr ⟨Nat.zero_le _, fun j hj => by rw [show j = 0 by omega]; exact h⟩
      · exact Or.inl ⟨0, Nat.le_refl _, by have := tP_le (tp := tp) (tn := tn) 0; omega, fun j hj => absurd hj (by omega)⟩
    | succ d ih =>
      rcases ih with ⟨m, h1, h2, h3⟩ | ⟨h1, h2⟩
      · exact Or.inl ⟨m, by omega, h2, h3⟩
      · have h4 := tP_lt (h2 d (Nat.le_refl _))
        by_cases h : tP tp tn (d + 1) < tn
        · refine Or.inr ⟨by omega, fun j hj => ?_⟩
          by_cases e : j = d + 1
          · rw [e]; exact h
          · exact h2 j (by omega)
        · exact Or.inl ⟨d + 1, Nat.le_refl _, by have := tP_le (tp := tp) (tn := tn) (d + 1); omega, fun j hj => h2 j (by omega)⟩
  rcases key 120 with ⟨m, h1, h2, h3⟩ | ⟨h1, h2⟩
  · exact ⟨m, h1, h2, h3⟩
  · have := h2 120 (Nat.le_refl _)
    omega
