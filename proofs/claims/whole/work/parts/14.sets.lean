/-! SETS as predicates: bs p 16 and what the program does to them; ways by steps -/
theorem bs_or1 {p q : Nat → Bool} {m j : Nat} (hm : m ≤ 32) (hj : j < m) (h : ∀ i, i < m → q i = (p i || decide (i = j))) : bs p m ||| (1 : Int32) <<< (nI j &&& 31) = bs q m := by
  apply b_ext
  intro i hi
  rw [b_or, bt_bs _ _ _ hm hi, bt_bs _ _ _ hm hi, b_sh (by omega) hi]
  by_cases h1 : i < m
  · simp [h1, h i h1]
  · have : ¬ i = j := by omega
    simp [h1, this]
theorem bs_or {p q : Nat → Bool} {m : Nat} (hm : m ≤ 32) : bs p m ||| bs q m = bs (fun i => p i || q i) m := by
  apply b_ext
  intro i hi
  rw [b_or, bt_bs _ _ _ hm hi, bt_bs _ _ _ hm hi, bt_bs _ _ _ hm hi]
  cases decide (i < m) <;> simp
theorem bs_and {p q : Nat → Bool} {m : Nat} (hm : m ≤ 32) : bs p m &&& bs q m = bs (fun i => p i && q i) m := by
  apply b_ext
  intro i hi
  rw [b_and, bt_bs _ _ _ hm hi, bt_bs _ _ _ hm hi, bt_bs _ _ _ hm hi]
  cases decide (i < m) <;> simp
theorem bs_diff {p q : Nat → Bool} {m : Nat} (hm : m ≤ 32) : bs p m &&& (bs q m ^^^ (-1)) = bs (fun i => p i && !q i) m := by
  apply b_ext
  intro i hi
  rw [b_and, b_xor, bt_bs _ _ _ hm hi, bt_bs _ _ _ hm hi, bt_bs _ _ _ hm hi, b_m1 i hi]
  cases decide (i < m) <;> simp
theorem bs_zero {p : Nat → Bool} {m : Nat} (hm : m ≤ 32) : bs p m = 0 ↔ ∀ i, i < m → p i = false := by
  constructor
  · intro h i hi
    have h1 := bt_bs p m i hm (by omega)
    rw [h, b_0] at h1
    simpa [hi] using h1.symm
  · intro h
    apply b_ext
    intro i hi
    rw [bt_bs _ _ _ hm hi, b_0]
    by_cases h1 : i < m
    · simp [h i h1]
    · simp [h1]
theorem bs_inj {p q : Nat → Bool} {m : Nat} (hm : m ≤ 32) (h : bs p m = bs q m) : ∀ i, i < m → p i = q i := by
  intro i hi
  have h1 := bt_bs p m i hm (by omega)
  have h2 := bt_bs q m i hm (by omega)
  rw [h] at h1
  rw [h1] at h2
  simpa [hi] using h2
theorem bs_out {p : Nat → Bool} {m i : Nat} (hm : m ≤ 32) (hi : i < 32) : bt (bs p m) i = (decide (i < m) && p i) := bt_bs p m i hm hi
/-- one of the first m -/
def anyR (p : Nat → Bool) : Nat → Bool
  | 0 => false
  | m + 1 => anyR p m || p m
theorem anyR_iff {p : Nat → Bool} : ∀ {m : Nat}, anyR p m = true ↔ ∃ r, r < m ∧ p r = true
  | 0 => by simp [anyR]
  | m + 1 => by
    rw [anyR, Bool.or_eq_true, anyR_iff (m := m)]
    constructor
    · rintro (⟨r, h1, h2⟩ | h)
      · exact ⟨r, by omega, h2⟩
      · exact ⟨m, by omega, h⟩
    · rintro ⟨r, h1, h2⟩
      by_cases h : r = m
      · subst h; exact Or.inr h2
      · exact Or.inl ⟨r, by omega, h2⟩
theorem anyR_cong {p q : Nat → Bool} : ∀ {m : Nat}, (∀ r, r < m → p r = q r) → anyR p m = anyR q m
  | 0, _ => rfl
  | m + 1, h => by rw [anyR, anyR, anyR_cong (fun r hr => h r (by omega)), h m (by omega)]
/-! WAYS: adj who stands by whom, op who is open, of 16 rooms -/
section WY
variable (adj : Nat → Nat → Bool) (op : Nat → Bool)
/-- who is reached from start with at most so many rooms -/
def wB (start : Nat → Bool) : Nat → Nat → Bool
  | 0, _ => false
  | k + 1, i => op i && (start i || anyR (fun r => wB start k r && adj r i) 16)
variable {adj op}
theorem wB_mono {start : Nat → Bool} : ∀ {k : Nat} {i : Nat}, wB adj op start k i = true → wB adj op start (k + 1) i = true
  | 0, i, h => by cases h
  | k + 1, i, h => by
    unfold wB at h ⊢
    simp only [Bool.and_eq_true, Bool.or_eq_true, anyR_iff] at h ⊢
    refine ⟨h.1, h.2.imp id ?_⟩
    rintro ⟨r, h1, h2, h3⟩
    exact ⟨r, h1, wB_mono h2, h3⟩
theorem wB_le {start : Nat → Bool} {k m i : Nat} (hkm : k ≤ m) (h : wB adj op start k i = true) : wB adj op start m i = true := by
  obtain ⟨d, rfl⟩ := Nat.exists_eq_add_of_le hkm
  clear hkm
  induction d with
  | zero => exact h
  | succ d ih => exact wB_mono ih
theorem wB_op {start : Nat → Bool} {k i : Nat} (h : wB adj op start k i = true) : op i = true := by
  cases k with
  | zero => cases h
  | succ k =>
    unfold wB at h
    simp only [Bool.and_eq_true] at h
    exact h.1
/-- the next layer -/
theorem wB_next {start : Nat → Bool} {k : Nat} (i : Nat) : (op i && anyR (fun r => (wB adj op start (k + 1) r && !wB adj op start k r) && adj r i) 16 && !wB adj op start (k + 1) i) = (wB adj op start (k + 2) i && !wB adj op start (k + 1) i) := by
  cases h : wB adj op start (k + 1) i with
  | true => simp
  | false =>
    simp only [Bool.not_false, Bool.and_true]
    rw [Bool.eq_iff_iff]
    conv => rhs; rw [wB]
    simp only [Bool.and_eq_true, Bool.or_eq_true, anyR_iff, Bool.not_eq_true']
    constructor
    · rintro ⟨h1, r, h2, ⟨h3, h4⟩, h5⟩
      exact ⟨h1, Or.inr ⟨r, h2, h3, h5⟩⟩
    · rintro ⟨h1, h2 | ⟨r, h2, h3, h4⟩⟩
      · exfalso
        have : wB adj op start (k + 1) i = true := by
          unfold wB
          simp [h1, h2]
        rw [h] at this
        cases this
      · refine ⟨h1, r, h2, ⟨h3, ?_⟩, h4⟩
        cases h5 : wB adj op start k r with
        | false => rfl
        | true =>
          exfalso
          have : wB adj op start (k + 1) i = true := by
            unfold wB
            simp only [Bool.and_eq_true, Bool.or_eq_true, anyR_iff]
            exact ⟨h1, Or.inr ⟨r, h2, h5, h4⟩⟩
          rw [h] at this
          cases this
/-- nothing new: nothing new ever -/
theorem wB_fix {start : Nat → Bool} {k : Nat} (h : ∀ i, i < 16 → wB adj op start (k + 1) i = wB adj op start k i) : ∀ m, k ≤ m → ∀ i, i < 16 → wB adj op start m i = wB adj op start k i := by
  intro m hm
  obtain ⟨d, rfl⟩ := Nat.exists_eq_add_of_le hm
  clear hm
  induction d with
  | zero => intro i _; rfl
  | succ d ih =>
    intro i hi
    rw [← h i hi]
    show wB adj op start (k + d + 1) i = _
    unfold wB
    rw [anyR_cong (fun r hr => by rw [ih r hr])]
/-- how many of the first m -/
def cntR (p : Nat → Bool) : Nat → Nat
  | 0 => 0
  | m + 1 => cntR p m + (if p m then 1 else 0)
theorem cntR_le (p : Nat → Bool) : ∀ m, cntR p m ≤ m
  | 0 => Nat.le_refl _
  | m + 1 => by
    rw [cntR]
    have := cntR_le p m
    split <;> omega
theorem cntR_sub {p q : Nat → Bool} : ∀ {m : Nat}, (∀ i, i < m → p i = true → q i = true) → cntR p m ≤ cntR q m
  | 0, _ => Nat.le_refl _
  | m + 1, h => by
    rw [cntR, cntR]
    have h1 := cntR_sub (p := p) (q := q) (m := m) (fun i hi => h i (by omega))
    have h2 := h m (by omega)
    cases hp : p m <;> cases hq : q m <;> simp_all <;> omega
theorem cntR_lt {p q : Nat → Bool} {m j : Nat} (h : ∀ i, i < m → p i = true → q i = true) (hj : j < m) (h1 : p j = false) (h2 : q j = true) : cntR p m < cntR q m := by
  induction m with
  | zero => omega
  | succ m ih =>
    rw [cntR, cntR]
    have h3 := cntR_sub (p := p) (q := q) (m := m) (fun i hi => h i (by omega))
    by_cases e : j = m
    · subst e
      simp [h1, h2]
      omega
    · have := ih (fun i hi => h i (by omega)) (by omega)
      have h4 := h m (by omega)
      cases hp : p m <;> cases hq : q m <;> simp_all <;> omega
/-- while there is something new, as many are there as steps -/
theorem wB_count {start : Nat → Bool} {k : Nat} (h : ∀ j, j < k → ∃ i, i < 16 ∧ wB adj op start (j + 1) i = true ∧ wB adj op start j i = false) : k ≤ cntR (wB adj op start k) 16 := by
  induction k with
  | zero => omega
  | succ k ih =>
    have h1 := ih (fun j hj => h j (by omega))
    obtain ⟨i, h2, h3, h4⟩ := h k (by omega)
    have := cntR_lt (p := wB adj op start k) (q := wB adj op start (k + 1)) (m := 16) (fun i _ h => wB_mono h) h2 h4 h3
    omega
/-- the length of a shortest way, 0: there is none -/
def isLen (B : Nat → Nat → Bool) (room d : Nat) : Prop := (d = 0 ∧ ∀ k, B k room = false) ∨ (0 < d ∧ B d room = true ∧ ∀ j, j < d → B j room = false)
theorem isLen_inj {B : Nat → Nat → Bool} {room d e : Nat} (h1 : isLen B room d) (h2 : isLen B room e) : d = e := by
  rcases h1 with ⟨a1, a2⟩ | ⟨a1, a2, a3⟩ <;> rcases h2 with ⟨b1, b2⟩ | ⟨b1, b2, b3⟩
  · omega
  · rw [a2] at b2; cases b2
  · rw [b2] at a2; cases a2
  · rcases Nat.lt_trichotomy d e with h | h | h
    · rw [b3 d h] at a2; cases a2
    · exact h
    · rw [a3 e h] at b2; cases b2
/-- from one room to another -/
def wW (x : Nat) : Nat → Nat → Bool := wB adj op (fun i => decide (i = x))
theorem wB_any {start : Nat → Bool} (hs : ∀ i, start i = true → i < 16) : ∀ {k i : Nat}, wB adj op start k i = true ↔ ∃ x, start x = true ∧ wB adj op (fun i => decide (i = x)) k i = true
  | 0, i => by simp [wB]
  | k + 1, i => by
    unfold wB
    simp only [Bool.and_eq_true, Bool.or_eq_true, anyR_iff, decide_eq_true_eq]
    constructor
    · rintro ⟨h1, h2 | ⟨r, h2, h3, h4⟩⟩
      · exact ⟨i, h2, h1, Or.inl rfl⟩
      · obtain ⟨x, h5, h6⟩ := (wB_any hs).mp h3
        exact ⟨x, h5, h1, Or.inr ⟨r, h2, h6, h4⟩⟩
    · rintro ⟨x, h0, h1, rfl | ⟨r, h2, h3, h4⟩⟩
      · exact ⟨h1, Or.inl h0⟩
      · exact ⟨h1, Or.inr ⟨r, h2, (wB_any hs).mpr ⟨x, h0, h3⟩, h4⟩⟩
/-- the first step instead of the last -/
theorem wB_first (x y : Nat) (hx : x < 16) (hy : y < 16) : ∀ {k : Nat}, wB adj op (fun i => decide (i = x)) (k + 1) y = true ↔ (op x = true ∧ x = y) ∨ (op x = true ∧ ∃ z, z < 16 ∧ adj x z = true ∧ wB adj op (fun i => decide (i = z)) k y = true)
  | 0 => by
    unfold wB
    simp only [Bool.and_eq_true, Bool.or_eq_true, anyR_iff, decide_eq_true_eq, wB, Bool.false_eq_true, false_and, and_false, exists_false, or_false]
    constructor
    · rintro ⟨h1, rfl⟩; exact ⟨h1, rfl⟩
    · rintro ⟨h1, rfl⟩; exact ⟨h1, rfl⟩
  | k + 1 => by
    rw [wB]
    simp only [Bool.and_eq_true, Bool.or_eq_true, anyR_iff, decide_eq_true_eq]
    constructor
    · rintro ⟨h1, rfl | ⟨r, h2, h3, h4⟩⟩
      · exact Or.inl ⟨h1, rfl⟩
      · rcases (wB_first x r hx h2).mp h3 with ⟨h5, rfl⟩ | ⟨h5, z, h6, h7, h8⟩
        · refine Or.inr ⟨h5, y, hy, h4, ?_⟩
          unfold wB
          simp [h1]
        · refine Or.inr ⟨h5, z, h6, h7, ?_⟩
          rw [wB]
          simp only [Bool.and_eq_true, Bool.or_eq_true, anyR_iff, decide_eq_true_eq]
          exact ⟨h1, Or.inr ⟨r, h2, h8, h4⟩⟩
    · rintro (⟨h1, rfl⟩ | ⟨h1, z, h2, h3, h4⟩)
      · exact ⟨h1, Or.inl rfl⟩
      · rw [wB] at h4
        simp only [Bool.and_eq_true, Bool.or_eq_true, anyR_iff, decide_eq_true_eq] at h4
        obtain ⟨h5, rfl | ⟨r, h6, h7, h8⟩⟩ := h4
        · refine ⟨h5, Or.inr ⟨x, hx, ?_, h3⟩⟩
          unfold wB
          simp [h1]
        · exact ⟨h5, Or.inr ⟨r, h6, (wB_first x r hx h6).mpr (Or.inr ⟨h1, z, h2, h3, h7⟩), h8⟩⟩
theorem wB_sym (hs : ∀ a b, a < 16 → b < 16 → adj a b = adj b a) : ∀ (k x y : Nat), x < 16 → y < 16 → wB adj op (fun i => decide (i = x)) k y = wB adj op (fun i => decide (i = y)) k x
  | 0, _, _, _, _ => rfl
  | k + 1, x, y, hx, hy => by
    rw [Bool.eq_iff_iff, wB_first x y hx hy]
    conv => rhs; rw [wB]
    simp only [Bool.and_eq_true, Bool.or_eq_true, anyR_iff, decide_eq_true_eq]
    constructor
    · rintro (⟨h1, h2⟩ | ⟨h1, z, h2, h3, h4⟩)
      · exact ⟨h1, Or.inl h2⟩
      · exact ⟨h1, Or.inr ⟨z, h2, by rw [← wB_sym hs k z y h2 hy]; exact h4, by rw [hs z x h2 hx]; exact h3⟩⟩
    · rintro ⟨h1, h2 | ⟨z, h2, h3, h4⟩⟩
      · exact Or.inl ⟨h1, h2⟩
      · exact Or.inr ⟨h1, z, h2, by rw [hs x z hx h2]; exact h4, by rw [wB_sym hs k z y h2 hy]; exact h3⟩
/-- from the grounds to the room, or back -/
theorem wB_back {start : Nat → Bool} (hs : ∀ a b, a < 16 → b < 16 → adj a b = adj b a) (h16 : ∀ i, start i = true → i < 16) {room : Nat} (hr : room < 16) (k : Nat) : wB adj op start k room = anyR (fun x => start x && wB adj op (fun i => decide (i = room)) k x) 16 := by
  rw [Bool.eq_iff_iff, wB_any h16, anyR_iff]
  constructor
  · rintro ⟨x, h1, h2⟩
    exact ⟨x, h16 x h1, by rw [h1, ← wB_sym hs k x room (h16 x h1) hr, h2]; rfl⟩
  · rintro ⟨x, h1, h2⟩
    simp only [Bool.and_eq_true] at h2
    exact ⟨x, h2.1, by rw [wB_sym hs k x room h1 hr]; exact h2.2⟩
end WY
