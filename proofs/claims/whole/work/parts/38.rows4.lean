/-! ROWS of the abstract machine for values of a known form: nI a, z01 (decide p) -/
theorem nd_lt {a b : Nat} (ha : a < 2 ^ 31) (hb : b < 2 ^ 31) : (nI a < nI b) = (a < b) := propext (nI_ltI ha hb)
theorem nd_le {a b : Nat} (ha : a < 2 ^ 31) (hb : b < 2 ^ 31) : (nI a ≤ nI b) = (a ≤ b) := propext (nI_leI ha hb)
theorem nd_eq {a b : Nat} (ha : a < 2 ^ 31) (hb : b < 2 ^ 31) : (nI a = nI b) = (a = b) := propext (nI_eq ha hb)
section RN
variable {X : List Int32} {k pc n : Nat} {ls : List (Option Value)} {st st2 : List Value} {w w2 : ab_W} {v : Option Value} {Q : Option Value → ab_W → Prop}
theorem ab_Nadd {a b : Nat} {x y : Int32} (h : ab_lk (it_ (ab_mi k)) pc = some (.iadd, n)) (hx : x = nI a) (hy : y = nI b) (t : ab_G X k (pc + 1) ls (.int (nI (a + b)) :: st) w v w2) : ab_G X k pc ls (.int y :: .int x :: st) w v w2 := by
  refine ab_s (st' := .int (x + y) :: st) (pc' := pc + 1) (ls' := ls) (w' := w) ?_ ?_
  · rw [ab_stp_of h]
    rfl
  · rw [show x + y = nI (a + b) from by rw [hx, hy, nI_add]]
    exact t
theorem h_Nadd {a b : Nat} {x y : Int32} (h : ab_lk (it_ (ab_mi k)) pc = some (.iadd, n)) (hx : x = nI a) (hy : y = nI b) (t : ab_H X k (pc + 1) ls (.int (nI (a + b)) :: st) w Q) : ab_H X k pc ls (.int y :: .int x :: st) w Q := by
  obtain ⟨v, w2, h1, h2⟩ := t
  exact ⟨v, w2, ab_Nadd h hx hy h1, h2⟩
theorem ab_Nmul {a b : Nat} {x y : Int32} (h : ab_lk (it_ (ab_mi k)) pc = some (.imul, n)) (hx : x = nI a) (hy : y = nI b) (t : ab_G X k (pc + 1) ls (.int (nI (a * b)) :: st) w v w2) : ab_G X k pc ls (.int y :: .int x :: st) w v w2 := by
  refine ab_s (st' := .int (x * y) :: st) (pc' := pc + 1) (ls' := ls) (w' := w) ?_ ?_
  · rw [ab_stp_of h]
    rfl
  · rw [show x * y = nI (a * b) from by rw [hx, hy, pk_mul]]
    exact t
theorem h_Nmul {a b : Nat} {x y : Int32} (h : ab_lk (it_ (ab_mi k)) pc = some (.imul, n)) (hx : x = nI a) (hy : y = nI b) (t : ab_H X k (pc + 1) ls (.int (nI (a * b)) :: st) w Q) : ab_H X k pc ls (.int y :: .int x :: st) w Q := by
  obtain ⟨v, w2, h1, h2⟩ := t
  exact ⟨v, w2, ab_Nmul h hx hy h1, h2⟩
theorem ab_Nsub {a b : Nat} {x y : Int32} (h : ab_lk (it_ (ab_mi k)) pc = some (.isub, n)) (hx : x = nI a) (hy : y = nI b) (hle : b ≤ a) (t : ab_G X k (pc + 1) ls (.int (nI (a - b)) :: st) w v w2) : ab_G X k pc ls (.int y :: .int x :: st) w v w2 := by
  refine ab_s (st' := .int (x - y) :: st) (pc' := pc + 1) (ls' := ls) (w' := w) ?_ ?_
  · rw [ab_stp_of h]
    rfl
  · rw [show x - y = nI (a - b) from by rw [hx, hy, pk_sub hle]]
    exact t
theorem h_Nsub {a b : Nat} {x y : Int32} (h : ab_lk (it_ (ab_mi k)) pc = some (.isub, n)) (hx : x = nI a) (hy : y = nI b) (hle : b ≤ a) (t : ab_H X k (pc + 1) ls (.int (nI (a - b)) :: st) w Q) : ab_H X k pc ls (.int y :: .int x :: st) w Q := by
  obtain ⟨v, w2, h1, h2⟩ := t
  exact ⟨v, w2, ab_Nsub h hx hy hle h1, h2⟩
theorem ab_Ndiv {a b : Nat} {x y : Int32} (h : ab_lk (it_ (ab_mi k)) pc = some (.idiv, n)) (hx : x = nI a) (hy : y = nI b) (ha : a < 2 ^ 31) (h0 : 0 < b) (hb : b < 2 ^ 31) (t : ab_G X k (pc + 1) ls (.int (nI (a / b)) :: st) w v w2) : ab_G X k pc ls (.int y :: .int x :: st) w v w2 :=
  ab_div h (by rw [hy]; exact nI_ne0 h0 hb) (by rw [hx, hy]; exact pk_div ha h0 hb) t
theorem h_Ndiv {a b : Nat} {x y : Int32} (h : ab_lk (it_ (ab_mi k)) pc = some (.idiv, n)) (hx : x = nI a) (hy : y = nI b) (ha : a < 2 ^ 31) (h0 : 0 < b) (hb : b < 2 ^ 31) (t : ab_H X k (pc + 1) ls (.int (nI (a / b)) :: st) w Q) : ab_H X k pc ls (.int y :: .int x :: st) w Q := by
  obtain ⟨v, w2, h1, h2⟩ := t
  exact ⟨v, w2, ab_Ndiv h hx hy ha h0 hb h1, h2⟩
theorem ab_Nrem {a b : Nat} {x y : Int32} (h : ab_lk (it_ (ab_mi k)) pc = some (.irem, n)) (hx : x = nI a) (hy : y = nI b) (ha : a < 2 ^ 31) (h0 : 0 < b) (hb : b < 2 ^ 31) (t : ab_G X k (pc + 1) ls (.int (nI (a % b)) :: st) w v w2) : ab_G X k pc ls (.int y :: .int x :: st) w v w2 :=
  ab_rem h (by rw [hy]; exact nI_ne0 h0 hb) (by rw [hx, hy]; exact pk_rem ha h0 hb) t
theorem h_Nrem {a b : Nat} {x y : Int32} (h : ab_lk (it_ (ab_mi k)) pc = some (.irem, n)) (hx : x = nI a) (hy : y = nI b) (ha : a < 2 ^ 31) (h0 : 0 < b) (hb : b < 2 ^ 31) (t : ab_H X k (pc + 1) ls (.int (nI (a % b)) :: st) w Q) : ab_H X k pc ls (.int y :: .int x :: st) w Q := by
  obtain ⟨v, w2, h1, h2⟩ := t
  exact ⟨v, w2, ab_Nrem h hx hy ha h0 hb h1, h2⟩
theorem jN_eq {off : Int} {a b t : Nat} {x y : Int32} (h : ab_lk (it_ (ab_mi k)) pc = some (.if_icmp .eq off, n)) (ht : ab_tg pc off = some t) (hx : x = nI a) (hy : y = nI b) (ha : a < 2 ^ 31) (hb : b < 2 ^ 31) (kt : a = b → ab_G X k t ls st w v w2) (kf : ¬ a = b → ab_G X k (pc + 3) ls st w v w2) : ab_G X k pc ls (.int y :: .int x :: st) w v w2 := by
  subst hx
  subst hy
  exact j2_eq h ht (fun e => kt (by rw [nd_eq ha hb] at e; exact e)) (fun e => kf (by rw [nd_eq ha hb] at e; exact e))
theorem jM_eq {off : Int} {a b t : Nat} {x : Int32} (h : ab_lk (it_ (ab_mi k)) pc = some (.ifCond .eq off, n)) (ht : ab_tg pc off = some t) (hx : x = nI a) (hb0 : 0 = b) (ha : a < 2 ^ 31) (kt : a = b → ab_G X k t ls st w v w2) (kf : ¬ a = b → ab_G X k (pc + 3) ls st w v w2) : ab_G X k pc ls (.int x :: st) w v w2 := by
  subst hx
  subst hb0
  exact j1_eq h ht (fun e => kt (by rw [show (0 : Int32) = nI 0 from rfl, nd_eq ha (by decide)] at e; exact e)) (fun e => kf (by rw [show (0 : Int32) = nI 0 from rfl, nd_eq ha (by decide)] at e; exact e))
theorem hN_eq {off : Int} {a b t : Nat} {x y : Int32} (h : ab_lk (it_ (ab_mi k)) pc = some (.if_icmp .eq off, n)) (ht : ab_tg pc off = some t) (hx : x = nI a) (hy : y = nI b) (ha : a < 2 ^ 31) (hb : b < 2 ^ 31) (kt : a = b → ab_H X k t ls st w Q) (kf : ¬ a = b → ab_H X k (pc + 3) ls st w Q) : ab_H X k pc ls (.int y :: .int x :: st) w Q := by
  subst hx
  subst hy
  exact h2_eq h ht (fun e => kt (by rw [nd_eq ha hb] at e; exact e)) (fun e => kf (by rw [nd_eq ha hb] at e; exact e))
theorem hM_eq {off : Int} {a b t : Nat} {x : Int32} (h : ab_lk (it_ (ab_mi k)) pc = some (.ifCond .eq off, n)) (ht : ab_tg pc off = some t) (hx : x = nI a) (hb0 : 0 = b) (ha : a < 2 ^ 31) (kt : a = b → ab_H X k t ls st w Q) (kf : ¬ a = b → ab_H X k (pc + 3) ls st w Q) : ab_H X k pc ls (.int x :: st) w Q := by
  subst hx
  subst hb0
  exact h1_eq h ht (fun e => kt (by rw [show (0 : Int32) = nI 0 from rfl, nd_eq ha (by decide)] at e; exact e)) (fun e => kf (by rw [show (0 : Int32) = nI 0 from rfl, nd_eq ha (by decide)] at e; exact e))
theorem jN_ne {off : Int} {a b t : Nat} {x y : Int32} (h : ab_lk (it_ (ab_mi k)) pc = some (.if_icmp .ne off, n)) (ht : ab_tg pc off = some t) (hx : x = nI a) (hy : y = nI b) (ha : a < 2 ^ 31) (hb : b < 2 ^ 31) (kt : ¬ a = b → ab_G X k t ls st w v w2) (kf : a = b → ab_G X k (pc + 3) ls st w v w2) : ab_G X k pc ls (.int y :: .int x :: st) w v w2 := by
  subst hx
  subst hy
  exact j2_ne h ht (fun e => kt (by rw [nd_eq ha hb] at e; exact e)) (fun e => kf (by rw [nd_eq ha hb] at e; exact e))
theorem jM_ne {off : Int} {a b t : Nat} {x : Int32} (h : ab_lk (it_ (ab_mi k)) pc = some (.ifCond .ne off, n)) (ht : ab_tg pc off = some t) (hx : x = nI a) (hb0 : 0 = b) (ha : a < 2 ^ 31) (kt : ¬ a = b → ab_G X k t ls st w v w2) (kf : a = b → ab_G X k (pc + 3) ls st w v w2) : ab_G X k pc ls (.int x :: st) w v w2 := by
  subst hx
  subst hb0
  exact j1_ne h ht (fun e => kt (by rw [show (0 : Int32) = nI 0 from rfl, nd_eq ha (by decide)] at e; exact e)) (fun e => kf (by rw [show (0 : Int32) = nI 0 from rfl, nd_eq ha (by decide)] at e; exact e))
theorem hN_ne {off : Int} {a b t : Nat} {x y : Int32} (h : ab_lk (it_ (ab_mi k)) pc = some (.if_icmp .ne off, n)) (ht : ab_tg pc off = some t) (hx : x = nI a) (hy : y = nI b) (ha : a < 2 ^ 31) (hb : b < 2 ^ 31) (kt : ¬ a = b → ab_H X k t ls st w Q) (kf : a = b → ab_H X k (pc + 3) ls st w Q) : ab_H X k pc ls (.int y :: .int x :: st) w Q := by
  subst hx
  subst hy
  exact h2_ne h ht (fun e => kt (by rw [nd_eq ha hb] at e; exact e)) (fun e => kf (by rw [nd_eq ha hb] at e; exact e))
theorem hM_ne {off : Int} {a b t : Nat} {x : Int32} (h : ab_lk (it_ (ab_mi k)) pc = some (.ifCond .ne off, n)) (ht : ab_tg pc off = some t) (hx : x = nI a) (hb0 : 0 = b) (ha : a < 2 ^ 31) (kt : ¬ a = b → ab_H X k t ls st w Q) (kf : a = b → ab_H X k (pc + 3) ls st w Q) : ab_H X k pc ls (.int x :: st) w Q := by
  subst hx
  subst hb0
  exact h1_ne h ht (fun e => kt (by rw [show (0 : Int32) = nI 0 from rfl, nd_eq ha (by decide)] at e; exact e)) (fun e => kf (by rw [show (0 : Int32) = nI 0 from rfl, nd_eq ha (by decide)] at e; exact e))
theorem jN_lt {off : Int} {a b t : Nat} {x y : Int32} (h : ab_lk (it_ (ab_mi k)) pc = some (.if_icmp .lt off, n)) (ht : ab_tg pc off = some t) (hx : x = nI a) (hy : y = nI b) (ha : a < 2 ^ 31) (hb : b < 2 ^ 31) (kt : a < b → ab_G X k t ls st w v w2) (kf : ¬ a < b → ab_G X k (pc + 3) ls st w v w2) : ab_G X k pc ls (.int y :: .int x :: st) w v w2 := by
  subst hx
  subst hy
  exact j2_lt h ht (fun e => kt (by rw [nd_lt ha hb] at e; exact e)) (fun e => kf (by rw [nd_lt ha hb] at e; exact e))
theorem jM_lt {off : Int} {a b t : Nat} {x : Int32} (h : ab_lk (it_ (ab_mi k)) pc = some (.ifCond .lt off, n)) (ht : ab_tg pc off = some t) (hx : x = nI a) (hb0 : 0 = b) (ha : a < 2 ^ 31) (kt : a < b → ab_G X k t ls st w v w2) (kf : ¬ a < b → ab_G X k (pc + 3) ls st w v w2) : ab_G X k pc ls (.int x :: st) w v w2 := by
  subst hx
  subst hb0
  exact j1_lt h ht (fun e => kt (by rw [show (0 : Int32) = nI 0 from rfl, nd_lt ha (by decide)] at e; exact e)) (fun e => kf (by rw [show (0 : Int32) = nI 0 from rfl, nd_lt ha (by decide)] at e; exact e))
theorem hN_lt {off : Int} {a b t : Nat} {x y : Int32} (h : ab_lk (it_ (ab_mi k)) pc = some (.if_icmp .lt off, n)) (ht : ab_tg pc off = some t) (hx : x = nI a) (hy : y = nI b) (ha : a < 2 ^ 31) (hb : b < 2 ^ 31) (kt : a < b → ab_H X k t ls st w Q) (kf : ¬ a < b → ab_H X k (pc + 3) ls st w Q) : ab_H X k pc ls (.int y :: .int x :: st) w Q := by
  subst hx
  subst hy
  exact h2_lt h ht (fun e => kt (by rw [nd_lt ha hb] at e; exact e)) (fun e => kf (by rw [nd_lt ha hb] at e; exact e))
theorem hM_lt {off : Int} {a b t : Nat} {x : Int32} (h : ab_lk (it_ (ab_mi k)) pc = some (.ifCond .lt off, n)) (ht : ab_tg pc off = some t) (hx : x = nI a) (hb0 : 0 = b) (ha : a < 2 ^ 31) (kt : a < b → ab_H X k t ls st w Q) (kf : ¬ a < b → ab_H X k (pc + 3) ls st w Q) : ab_H X k pc ls (.int x :: st) w Q := by
  subst hx
  subst hb0
  exact h1_lt h ht (fun e => kt (by rw [show (0 : Int32) = nI 0 from rfl, nd_lt ha (by decide)] at e; exact e)) (fun e => kf (by rw [show (0 : Int32) = nI 0 from rfl, nd_lt ha (by decide)] at e; exact e))
theorem jN_ge {off : Int} {a b t : Nat} {x y : Int32} (h : ab_lk (it_ (ab_mi k)) pc = some (.if_icmp .ge off, n)) (ht : ab_tg pc off = some t) (hx : x = nI a) (hy : y = nI b) (ha : a < 2 ^ 31) (hb : b < 2 ^ 31) (kt : b ≤ a → ab_G X k t ls st w v w2) (kf : ¬ b ≤ a → ab_G X k (pc + 3) ls st w v w2) : ab_G X k pc ls (.int y :: .int x :: st) w v w2 := by
  subst hx
  subst hy
  exact j2_ge h ht (fun e => kt (by rw [nd_le hb ha] at e; exact e)) (fun e => kf (by rw [nd_le hb ha] at e; exact e))
theorem jM_ge {off : Int} {a b t : Nat} {x : Int32} (h : ab_lk (it_ (ab_mi k)) pc = some (.ifCond .ge off, n)) (ht : ab_tg pc off = some t) (hx : x = nI a) (hb0 : 0 = b) (ha : a < 2 ^ 31) (kt : b ≤ a → ab_G X k t ls st w v w2) (kf : ¬ b ≤ a → ab_G X k (pc + 3) ls st w v w2) : ab_G X k pc ls (.int x :: st) w v w2 := by
  subst hx
  subst hb0
  exact j1_ge h ht (fun e => kt (by rw [show (0 : Int32) = nI 0 from rfl, nd_le (by decide) ha] at e; exact e)) (fun e => kf (by rw [show (0 : Int32) = nI 0 from rfl, nd_le (by decide) ha] at e; exact e))
theorem hN_ge {off : Int} {a b t : Nat} {x y : Int32} (h : ab_lk (it_ (ab_mi k)) pc = some (.if_icmp .ge off, n)) (ht : ab_tg pc off = some t) (hx : x = nI a) (hy : y = nI b) (ha : a < 2 ^ 31) (hb : b < 2 ^ 31) (kt : b ≤ a → ab_H X k t ls st w Q) (kf : ¬ b ≤ a → ab_H X k (pc + 3) ls st w Q) : ab_H X k pc ls (.int y :: .int x :: st) w Q := by
  subst hx
  subst hy
  exact h2_ge h ht (fun e => kt (by rw [nd_le hb ha] at e; exact e)) (fun e => kf (by rw [nd_le hb ha] at e; exact e))
theorem hM_ge {off : Int} {a b t : Nat} {x : Int32} (h : ab_lk (it_ (ab_mi k)) pc = some (.ifCond .ge off, n)) (ht : ab_tg pc off = some t) (hx : x = nI a) (hb0 : 0 = b) (ha : a < 2 ^ 31) (kt : b ≤ a → ab_H X k t ls st w Q) (kf : ¬ b ≤ a → ab_H X k (pc + 3) ls st w Q) : ab_H X k pc ls (.int x :: st) w Q := by
  subst hx
  subst hb0
  exact h1_ge h ht (fun e => kt (by rw [show (0 : Int32) = nI 0 from rfl, nd_le (by decide) ha] at e; exact e)) (fun e => kf (by rw [show (0 : Int32) = nI 0 from rfl, nd_le (by decide) ha] at e; exact e))
theorem jN_gt {off : Int} {a b t : Nat} {x y : Int32} (h : ab_lk (it_ (ab_mi k)) pc = some (.if_icmp .gt off, n)) (ht : ab_tg pc off = some t) (hx : x = nI a) (hy : y = nI b) (ha : a < 2 ^ 31) (hb : b < 2 ^ 31) (kt : b < a → ab_G X k t ls st w v w2) (kf : ¬ b < a → ab_G X k (pc + 3) ls st w v w2) : ab_G X k pc ls (.int y :: .int x :: st) w v w2 := by
  subst hx
  subst hy
  exact j2_gt h ht (fun e => kt (by rw [nd_lt hb ha] at e; exact e)) (fun e => kf (by rw [nd_lt hb ha] at e; exact e))
theorem jM_gt {off : Int} {a b t : Nat} {x : Int32} (h : ab_lk (it_ (ab_mi k)) pc = some (.ifCond .gt off, n)) (ht : ab_tg pc off = some t) (hx : x = nI a) (hb0 : 0 = b) (ha : a < 2 ^ 31) (kt : b < a → ab_G X k t ls st w v w2) (kf : ¬ b < a → ab_G X k (pc + 3) ls st w v w2) : ab_G X k pc ls (.int x :: st) w v w2 := by
  subst hx
  subst hb0
  exact j1_gt h ht (fun e => kt (by rw [show (0 : Int32) = nI 0 from rfl, nd_lt (by decide) ha] at e; exact e)) (fun e => kf (by rw [show (0 : Int32) = nI 0 from rfl, nd_lt (by decide) ha] at e; exact e))
theorem hN_gt {off : Int} {a b t : Nat} {x y : Int32} (h : ab_lk (it_ (ab_mi k)) pc = some (.if_icmp .gt off, n)) (ht : ab_tg pc off = some t) (hx : x = nI a) (hy : y = nI b) (ha : a < 2 ^ 31) (hb : b < 2 ^ 31) (kt : b < a → ab_H X k t ls st w Q) (kf : ¬ b < a → ab_H X k (pc + 3) ls st w Q) : ab_H X k pc ls (.int y :: .int x :: st) w Q := by
  subst hx
  subst hy
  exact h2_gt h ht (fun e => kt (by rw [nd_lt hb ha] at e; exact e)) (fun e => kf (by rw [nd_lt hb ha] at e; exact e))
theorem hM_gt {off : Int} {a b t : Nat} {x : Int32} (h : ab_lk (it_ (ab_mi k)) pc = some (.ifCond .gt off, n)) (ht : ab_tg pc off = some t) (hx : x = nI a) (hb0 : 0 = b) (ha : a < 2 ^ 31) (kt : b < a → ab_H X k t ls st w Q) (kf : ¬ b < a → ab_H X k (pc + 3) ls st w Q) : ab_H X k pc ls (.int x :: st) w Q := by
  subst hx
  subst hb0
  exact h1_gt h ht (fun e => kt (by rw [show (0 : Int32) = nI 0 from rfl, nd_lt (by decide) ha] at e; exact e)) (fun e => kf (by rw [show (0 : Int32) = nI 0 from rfl, nd_lt (by decide) ha] at e; exact e))
theorem jN_le {off : Int} {a b t : Nat} {x y : Int32} (h : ab_lk (it_ (ab_mi k)) pc = some (.if_icmp .le off, n)) (ht : ab_tg pc off = some t) (hx : x = nI a) (hy : y = nI b) (ha : a < 2 ^ 31) (hb : b < 2 ^ 31) (kt : a ≤ b → ab_G X k t ls st w v w2) (kf : ¬ a ≤ b → ab_G X k (pc + 3) ls st w v w2) : ab_G X k pc ls (.int y :: .int x :: st) w v w2 := by
  subst hx
  subst hy
  exact j2_le h ht (fun e => kt (by rw [nd_le ha hb] at e; exact e)) (fun e => kf (by rw [nd_le ha hb] at e; exact e))
theorem jM_le {off : Int} {a b t : Nat} {x : Int32} (h : ab_lk (it_ (ab_mi k)) pc = some (.ifCond .le off, n)) (ht : ab_tg pc off = some t) (hx : x = nI a) (hb0 : 0 = b) (ha : a < 2 ^ 31) (kt : a ≤ b → ab_G X k t ls st w v w2) (kf : ¬ a ≤ b → ab_G X k (pc + 3) ls st w v w2) : ab_G X k pc ls (.int x :: st) w v w2 := by
  subst hx
  subst hb0
  exact j1_le h ht (fun e => kt (by rw [show (0 : Int32) = nI 0 from rfl, nd_le ha (by decide)] at e; exact e)) (fun e => kf (by rw [show (0 : Int32) = nI 0 from rfl, nd_le ha (by decide)] at e; exact e))
theorem hN_le {off : Int} {a b t : Nat} {x y : Int32} (h : ab_lk (it_ (ab_mi k)) pc = some (.if_icmp .le off, n)) (ht : ab_tg pc off = some t) (hx : x = nI a) (hy : y = nI b) (ha : a < 2 ^ 31) (hb : b < 2 ^ 31) (kt : a ≤ b → ab_H X k t ls st w Q) (kf : ¬ a ≤ b → ab_H X k (pc + 3) ls st w Q) : ab_H X k pc ls (.int y :: .int x :: st) w Q := by
  subst hx
  subst hy
  exact h2_le h ht (fun e => kt (by rw [nd_le ha hb] at e; exact e)) (fun e => kf (by rw [nd_le ha hb] at e; exact e))
theorem hM_le {off : Int} {a b t : Nat} {x : Int32} (h : ab_lk (it_ (ab_mi k)) pc = some (.ifCond .le off, n)) (ht : ab_tg pc off = some t) (hx : x = nI a) (hb0 : 0 = b) (ha : a < 2 ^ 31) (kt : a ≤ b → ab_H X k t ls st w Q) (kf : ¬ a ≤ b → ab_H X k (pc + 3) ls st w Q) : ab_H X k pc ls (.int x :: st) w Q := by
  subst hx
  subst hb0
  exact h1_le h ht (fun e => kt (by rw [show (0 : Int32) = nI 0 from rfl, nd_le ha (by decide)] at e; exact e)) (fun e => kf (by rw [show (0 : Int32) = nI 0 from rfl, nd_le ha (by decide)] at e; exact e))
theorem d1_eq {off : Int} {p : Prop} {hp : Decidable p} {t : Nat} (h : ab_lk (it_ (ab_mi k)) pc = some (.ifCond .eq off, n)) (ht : ab_tg pc off = some t) (kt : ¬ p → ab_G X k t ls st w v w2) (kf : p → ab_G X k (pc + 3) ls st w v w2) : ab_G X k pc ls (.int (z01 (decide p)) :: st) w v w2 :=
  z1_eq h ht (fun e => kt (of_decide_eq_false e)) (fun e => kf (of_decide_eq_true e))
theorem d1_ne {off : Int} {p : Prop} {hp : Decidable p} {t : Nat} (h : ab_lk (it_ (ab_mi k)) pc = some (.ifCond .ne off, n)) (ht : ab_tg pc off = some t) (kt : p → ab_G X k t ls st w v w2) (kf : ¬ p → ab_G X k (pc + 3) ls st w v w2) : ab_G X k pc ls (.int (z01 (decide p)) :: st) w v w2 :=
  z1_ne h ht (fun e => kt (of_decide_eq_true e)) (fun e => kf (of_decide_eq_false e))
theorem hd_eq {off : Int} {p : Prop} {hp : Decidable p} {t : Nat} (h : ab_lk (it_ (ab_mi k)) pc = some (.ifCond .eq off, n)) (ht : ab_tg pc off = some t) (kt : ¬ p → ab_H X k t ls st w Q) (kf : p → ab_H X k (pc + 3) ls st w Q) : ab_H X k pc ls (.int (z01 (decide p)) :: st) w Q :=
  hz_eq h ht (fun e => kt (of_decide_eq_false e)) (fun e => kf (of_decide_eq_true e))
theorem hd_ne {off : Int} {p : Prop} {hp : Decidable p} {t : Nat} (h : ab_lk (it_ (ab_mi k)) pc = some (.ifCond .ne off, n)) (ht : ab_tg pc off = some t) (kt : p → ab_H X k t ls st w Q) (kf : ¬ p → ab_H X k (pc + 3) ls st w Q) : ab_H X k pc ls (.int (z01 (decide p)) :: st) w Q :=
  hz_ne h ht (fun e => kt (of_decide_eq_true e)) (fun e => kf (of_decide_eq_false e))
/-- a call on an object, what holds then -/
theorem h_ru {v0 : Option Value} {w' : ab_W} (h : ab_stp X (ab_mi k) pc ls st w = some (.inr (.inl (v0, w')))) (q : Q v0 w') : ab_H X k pc ls st w Q := h_r h q
theorem ab_rd {p : Prop} {hp : Decidable p} {x y : Int32} (h : ab_lk (it_ (ab_mi k)) pc = some (.ireturn, n)) (hr : ir (ab_mi k) = some .boolean) (e : x = z01 (decide p)) (e2 : z01 (decide p) = y) : ab_G X k pc ls [.int x] w (some (.int y)) w := by
  subst e
  subst e2
  exact ab_rb h hr (z01_or _) rfl
/-- the value of a switch by its number -/
theorem ab_Nsw {a : Nat} {d lo hi : Int} {offs : Array Int} {x : Int32} {off : Int} {t : Nat} (h : ab_lk (it_ (ab_mi k)) pc = some (.tableswitch d lo hi offs, n)) (hx : x = nI a) (h1 : (decide ((nI a).toInt < lo) || decide (hi < (nI a).toInt)) = false) (ho : offs.toList[((nI a).toInt - lo).toNat]? = some off) (ht : ab_tg pc off = some t) (kk : ab_G X k t ls st w v w2) : ab_G X k pc ls (.int x :: st) w v w2 := by
  subst hx
  exact ab_sw h h1 ho ht kk
theorem h_Nsw {a : Nat} {d lo hi : Int} {offs : Array Int} {x : Int32} {off : Int} {t : Nat} (h : ab_lk (it_ (ab_mi k)) pc = some (.tableswitch d lo hi offs, n)) (hx : x = nI a) (h1 : (decide ((nI a).toInt < lo) || decide (hi < (nI a).toInt)) = false) (ho : offs.toList[((nI a).toInt - lo).toNat]? = some off) (ht : ab_tg pc off = some t) (kk : ab_H X k t ls st w Q) : ab_H X k pc ls (.int x :: st) w Q := by
  subst hx
  exact h_sw h h1 ho ht kk
end RN
theorem z01_inj {a b : Bool} (h : z01 a = z01 b) : a = b := by cases a <;> cases b <;> first | rfl | exact absurd h (by decide)
theorem inN_nI {a m : Nat} (ha : a < 2 ^ 31) : inN (nI a) m = decide (a < m) := by
  unfold inN
  rw [nI_toInt ha]
  exact decide_eq_decide.mpr ⟨fun h => by omega, fun h => by omega⟩
theorem inN_neg {x : Int32} {m : Nat} (h : x.toInt < 0) : inN x m = false := by
  unfold inN
  exact decide_eq_false (by omega)
theorem inN_m1 (m : Nat) : inN (-1) m = false := inN_neg (by decide)
