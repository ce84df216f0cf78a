/-! SHARE: what both count -/
def shBare (s : List Int32) (n f : Nat) (c : Int32) (h : Nat) : Bool := decide (h < n) && lwB s h f c false
/-- the houses that let f in by their leave alone -/
def shBy (s : List Int32) (n f : Nat) (c : Int32) (h : Nat) : Bool := lqB s n f c h && !shBare s n f c h
def shOth (s : List Int32) (n f : Nat) (c : Int32) (hs h : Nat) : Bool := shBy s n f c h && !decide (h = hs)
def shSelf (s : List Int32) (n f : Nat) (c : Int32) (hs h : Nat) : Bool := shBy s n f c h && decide (h = hs)
/-- the way home hangs on hs, if those of m let in as well -/
def shT (s : List Int32) (n f : Nat) (c : Int32) (hs m : Nat) : Bool := offQ s n f (fun h => shBare s n f c h || (bt (nI m) h && decide (h < 8))) && !offQ s n f (fun h => (shBare s n f c h || (bt (nI m) h && decide (h < 8))) || shSelf s n f c hs h)
def shQ (s : List Int32) (n f : Nat) (c : Int32) (hs m : Nat) : Bool := !anyR (fun h => bt (nI m) h && !shOth s n f c hs h) 8 && shT s n f c hs m
def shC (s : List Int32) (n f : Nat) (c : Int32) (hs : Nat) : Nat := cntR (shQ s n f c hs) 256
def shP (s : List Int32) (n f : Nat) (c : Int32) (hs : Nat) : Nat := cntR (shOth s n f c hs) 8
def shI (s : List Int32) (n f : Nat) (c : Int32) (hs pt : Nat) : Nat := (if pt = 0 then shC s n f c hs else 2 ^ shP s n f c hs) / Nat.gcd (2 ^ shP s n f c hs) (shC s n f c hs)
/-! bits of numbers -/
theorem bt_tb {m h : Nat} (hm : m < 2 ^ 32) (hh : h < 32) : bt (nI m) h = m.testBit h := by
  unfold bt
  have : (nI m).toBitVec = BitVec.ofNat 32 m := rfl
  rw [this, BitVec.getLsbD_ofNat, decide_eq_true hh, Bool.true_and]
theorem and_add {k m O : Nat} (hm : m < 2 ^ k) : (2 ^ k + m) &&& O = if O.testBit k = true then 2 ^ k + (m &&& O) else m &&& O := by
  have hmo : m &&& O < 2 ^ k := Nat.lt_of_le_of_lt Nat.and_le_left hm
  apply Nat.eq_of_testBit_eq
  intro j
  rw [Nat.testBit_and]
  rcases Nat.lt_trichotomy j k with h | h | h
  · rw [Nat.testBit_two_pow_add_gt h]
    split
    · rw [Nat.testBit_two_pow_add_gt h, Nat.testBit_and]
    · rw [Nat.testBit_and]
  · subst h
    rw [Nat.testBit_two_pow_add_eq, Nat.testBit_lt_two_pow hm, Bool.not_false, Bool.true_and]
    split
    · rename_i q
      rw [Nat.testBit_two_pow_add_eq, Nat.testBit_lt_two_pow hmo, q]; rfl
    · rename_i q
      rw [Nat.testBit_lt_two_pow hmo]
      simpa using q
  · have hk : 2 ^ (k + 1) ≤ 2 ^ j := Nat.pow_le_pow_right (by decide) (by omega)
    have hp : 2 ^ (k + 1) = 2 ^ k + 2 ^ k := by rw [Nat.pow_succ]; omega
    rw [Nat.testBit_lt_two_pow (show 2 ^ k + m < 2 ^ j by omega), Bool.false_and]
    split
    · rw [Nat.testBit_lt_two_pow (show 2 ^ k + (m &&& O) < 2 ^ j by omega)]
    · rw [Nat.testBit_lt_two_pow (show (m &&& O) < 2 ^ j by omega)]
theorem cnt_add (p : Nat → Bool) (a : Nat) : ∀ b, cntR p (a + b) = cntR p a + cntR (fun i => p (a + i)) b
  | 0 => rfl
  | b + 1 => by
    show cntR p (a + b) + _ = cntR p a + (cntR (fun i => p (a + i)) b + _)
    rw [cnt_add p a b, Nat.add_assoc]
    rfl
theorem cnt_cong {p q : Nat → Bool} : ∀ {k : Nat}, (∀ i, i < k → p i = q i) → cntR p k = cntR q k
  | 0, _ => rfl
  | k + 1, h => by rw [cntR, cntR, cnt_cong (fun i hi => h i (by omega)), h k (by omega)]
theorem cnt_no {p : Nat → Bool} : ∀ {k : Nat}, (∀ i, i < k → p i = false) → cntR p k = 0
  | 0, _ => rfl
  | k + 1, h => by rw [cntR, cnt_no (fun i hi => h i (by omega)), h k (by omega)]; rfl
def exN (O hs : Nat) : Nat → Nat
  | 0 => 0
  | k + 1 => exN O hs k + if O.testBit k = true ∨ k = hs then 0 else 1
/-- each set of others stands for as many sets -/
theorem sub_cnt {O hs : Nat} (hO : O.testBit hs = false) : ∀ (k : Nat) (P : Nat → Bool), cntR (fun m => !m.testBit hs && P (m &&& O)) (2 ^ k) = cntR (fun m => decide (m &&& O = m) && P m) (2 ^ k) * 2 ^ exN O hs k
  | 0, P => by
    show 0 + (if (!(0 : Nat).testBit hs && P (0 &&& O)) = true then 1 else 0) = (0 + (if (decide (0 &&& O = 0) && P 0) = true then 1 else 0)) * 1
    rw [Nat.zero_and, Nat.zero_testBit, decide_eq_true rfl]
    simp
  | k + 1, P => by
    have hp : 2 ^ (k + 1) = 2 ^ k + 2 ^ k := by rw [Nat.pow_succ]; omega
    rw [hp, cnt_add, cnt_add, sub_cnt hO k P]
    by_cases hk : O.testBit k = true
    · have hne : ¬ k = hs := fun e => by rw [e, hO] at hk; cases hk
      have e1 : cntR (fun i => !(2 ^ k + i).testBit hs && P ((2 ^ k + i) &&& O)) (2 ^ k) = cntR (fun m => !m.testBit hs && (fun x => P (2 ^ k + x)) (m &&& O)) (2 ^ k) := cnt_cong (fun i hi => by
        rw [and_add hi, if_pos hk]
        rcases Nat.lt_or_ge hs k with h | h
        · rw [Nat.testBit_two_pow_add_gt h]
        · have hk2 : 2 ^ (k + 1) ≤ 2 ^ hs := Nat.pow_le_pow_right (by decide) (by omega)
          rw [Nat.testBit_lt_two_pow (show 2 ^ k + i < 2 ^ hs by omega), Nat.testBit_lt_two_pow (show i < 2 ^ hs by omega)])
      have e2 : cntR (fun i => decide ((2 ^ k + i) &&& O = 2 ^ k + i) && P (2 ^ k + i)) (2 ^ k) = cntR (fun m => decide (m &&& O = m) && (fun x => P (2 ^ k + x)) m) (2 ^ k) := cnt_cong (fun i hi => by
        rw [and_add hi, if_pos hk]
        congr 1
        exact decide_eq_decide.mpr ⟨fun h => by omega, fun h => by omega⟩)
      rw [e1, e2, sub_cnt hO k (fun x => P (2 ^ k + x)), exN, if_pos (Or.inl hk), Nat.add_zero, Nat.add_mul]
    · have hkf : O.testBit k = false := by simpa using hk
      have e2 : cntR (fun i => decide ((2 ^ k + i) &&& O = 2 ^ k + i) && P (2 ^ k + i)) (2 ^ k) = 0 := cnt_no (fun i hi => by
        have : i &&& O ≤ i := Nat.and_le_left
        rw [and_add hi, if_neg hk, decide_eq_false (by omega), Bool.false_and])
      rw [e2, Nat.add_zero]
      by_cases hh : k = hs
      · have e1 : cntR (fun i => !(2 ^ k + i).testBit hs && P ((2 ^ k + i) &&& O)) (2 ^ k) = 0 := cnt_no (fun i hi => by
          rw [← hh, Nat.testBit_two_pow_add_eq, Nat.testBit_lt_two_pow hi]; rfl)
        rw [e1, exN, if_pos (Or.inr hh), Nat.add_zero, Nat.add_zero]
      · have e1 : cntR (fun i => !(2 ^ k + i).testBit hs && P ((2 ^ k + i) &&& O)) (2 ^ k) = cntR (fun m => !m.testBit hs && P (m &&& O)) (2 ^ k) := cnt_cong (fun i hi => by
          rw [and_add hi, if_neg hk]
          rcases Nat.lt_or_ge hs k with h | h
          · rw [Nat.testBit_two_pow_add_gt h]
          · have hk2 : 2 ^ (k + 1) ≤ 2 ^ hs := Nat.pow_le_pow_right (by decide) (by omega)
            rw [Nat.testBit_lt_two_pow (show 2 ^ k + i < 2 ^ hs by omega), Nat.testBit_lt_two_pow (show i < 2 ^ hs by omega)])
        rw [e1, sub_cnt hO k P, exN, if_neg (fun q => q.elim hk hh), Nat.pow_succ, ← Nat.mul_assoc]
        omega
theorem ex_cnt {O hs : Nat} (hO : O.testBit hs = false) : ∀ k, exN O hs k + cntR O.testBit k + (if hs < k then 1 else 0) = k
  | 0 => rfl
  | k + 1 => by
    have ih := ex_cnt hO k
    rw [exN, cntR]
    by_cases hk : O.testBit k = true
    · have hne : ¬ k = hs := fun e => by rw [e, hO] at hk; cases hk
      rw [if_pos (Or.inl hk), if_pos hk]
      by_cases h : hs < k
      · rw [if_pos h] at ih; rw [if_pos (by omega)]; omega
      · rw [if_neg h] at ih; rw [if_neg (by omega)]; omega
    · rw [if_neg hk]
      by_cases hh : k = hs
      · rw [if_pos (Or.inr hh), if_pos (by omega)]; rw [if_neg (by omega)] at ih; omega
      · rw [if_neg (fun q => q.elim hk hh)]
        by_cases h : hs < k
        · rw [if_pos h] at ih; rw [if_pos (by omega)]; omega
        · rw [if_neg h] at ih; rw [if_neg (by omega)]; omega
/-- sets of others lie below 2 ^ n -/
theorem sub_up {O n : Nat} (hO : ∀ k, n ≤ k → O.testBit k = false) (P : Nat → Bool) : ∀ d, cntR (fun m => decide (m &&& O = m) && P m) (2 ^ (n + d)) = cntR (fun m => decide (m &&& O = m) && P m) (2 ^ n)
  | 0 => rfl
  | d + 1 => by
    have hp : 2 ^ (n + (d + 1)) = 2 ^ (n + d) + 2 ^ (n + d) := by rw [show n + (d + 1) = (n + d) + 1 by omega, Nat.pow_succ]; omega
    rw [hp, cnt_add, sub_up hO P d, cnt_no (k := 2 ^ (n + d)) (fun i hi => ?_), Nat.add_zero]
    have : i &&& O ≤ i := Nat.and_le_left
    rw [and_add hi, if_neg (by rw [hO _ (by omega)]; decide), decide_eq_false (by omega), Bool.false_and]
/-- halving -/
def hvN : Nat → Nat × Nat → Nat × Nat
  | 0, p => p
  | k + 1, p => if p.1 % 2 = 0 ∧ p.2 % 2 = 0 then hvN k (p.1 / 2, p.2 / 2) else p
theorem hv_ok : ∀ p, p ≤ 7 → ∀ c, c ≤ 128 → hvN 8 (c, 2 ^ p) = (c / Nat.gcd (2 ^ p) c, 2 ^ p / Nat.gcd (2 ^ p) c) := by decide +kernel
section SHM
variable {s : List Int32} {n f hs : Nat} {c : Int32}
theorem by_lt (hn : n ≤ 8) {h : Nat} (q : shBy s n f c h = true) : h < n := by
  unfold shBy lqB at q
  simp only [Bool.and_eq_true, decide_eq_true_eq] at q
  exact q.1.1
theorem oth_hs : shOth s n f c hs hs = false := by
  unfold shOth
  rw [decide_eq_true rfl]
  simp
/-- the number of the others -/
theorem oth_num (hn : n ≤ 8) : ∃ O, O < 256 ∧ bs (shOth s n f c hs) 8 = nI O ∧ (∀ h, h < 8 → O.testBit h = shOth s n f c hs h) ∧ (∀ k, n ≤ k → O.testBit k = false) ∧ O.testBit hs = false := by
  obtain ⟨O, hO, e, -⟩ := ones_set (p := shOth s n f c hs) (m := 8) (by decide)
  have hb : ∀ h, h < 8 → O.testBit h = shOth s n f c hs h := fun h hh => by
    rw [← bt_tb (by omega) (by omega), ← e, bt_bs _ _ _ (by decide) (by omega), decide_eq_true hh, Bool.true_and]
  have h8 : ∀ k, 8 ≤ k → O.testBit k = false := fun k hk => Nat.testBit_lt_two_pow (Nat.lt_of_lt_of_le (show O < 2 ^ 8 from hO) (Nat.pow_le_pow_right (by decide) hk))
  refine ⟨O, hO, e, hb, fun k hk => ?_, ?_⟩
  · rcases Nat.lt_or_ge k 8 with h | h
    · rw [hb k h]
      cases q : shOth s n f c hs k with
      | false => rfl
      | true =>
        unfold shOth at q
        rw [Bool.and_eq_true] at q
        exact absurd (by_lt hn q.1) (by omega)
    · exact h8 k h
  · rcases Nat.lt_or_ge hs 8 with h | h
    · rw [hb hs h, oth_hs]
    · exact h8 hs h
theorem sub_num {O m : Nat} (hm : m < 256) (hb : ∀ h, h < 8 → O.testBit h = shOth s n f c hs h) : (!anyR (fun h => bt (nI m) h && !shOth s n f c hs h) 8) = decide (m &&& O = m) := by
  rw [Bool.eq_iff_iff, Bool.not_eq_true', Bool.eq_false_iff, ne_eq, anyR_iff, decide_eq_true_eq]
  constructor
  · intro q
    apply Nat.eq_of_testBit_eq
    intro j
    rw [Nat.testBit_and]
    rcases Nat.lt_or_ge j 8 with h | h
    · cases e : m.testBit j with
      | false => rfl
      | true =>
        rw [hb j h]
        cases e2 : shOth s n f c hs j with
        | true => rfl
        | false => exact absurd ⟨j, h, by rw [bt_tb (by omega) (by omega), e, e2]; rfl⟩ q
    · rw [Nat.testBit_lt_two_pow (Nat.lt_of_lt_of_le (show m < 2 ^ 8 from hm) (Nat.pow_le_pow_right (by decide) h)), Bool.false_and]
  · rintro q ⟨h, hh, e⟩
    simp only [Bool.and_eq_true, Bool.not_eq_true'] at e
    rw [bt_tb (by omega) (by omega)] at e
    have := congrArg (fun x => x.testBit h) q
    simp only [Nat.testBit_and] at this
    rw [e.1, hb h hh, e.2] at this
    cases this
/-- the reference's count is the class's, so many times -/
theorem share_N (hn : n ≤ 8) (hhs : hs < n) {O : Nat} (hO : O < 256) (hb : ∀ h, h < 8 → O.testBit h = shOth s n f c hs h) (ho : ∀ k, n ≤ k → O.testBit k = false) (hoh : O.testBit hs = false) : cntR (fun m => !m.testBit hs && shT s n f c hs (m &&& O)) (2 ^ n) = shC s n f c hs * 2 ^ exN O hs n ∧ exN O hs n + shP s n f c hs + 1 = n := by
  constructor
  · rw [sub_cnt hoh n (shT s n f c hs), ← sub_up ho (shT s n f c hs) (8 - n), show n + (8 - n) = 8 by omega]
    refine congrArg (fun x => x * 2 ^ exN O hs n) ?_
    exact cnt_cong (k := 256) (fun m hm => by rw [← sub_num hm hb]; rfl)
  · have h := ex_cnt hoh n
    rw [if_pos hhs] at h
    have e : cntR O.testBit n = shP s n f c hs := by
      rw [← cnt_8 (p := O.testBit) (n := n) (fun i q => by
        rcases Nat.lt_or_ge i n with h | h
        · exact h
        · rw [ho i h] at q; cases q) 8 hn]
      exact cnt_cong hb
    omega
theorem shC_le : shC s n f c hs ≤ 2 ^ shP s n f c hs ∨ True := Or.inr trivial
theorem gcd_sc (C P e : Nat) : C * 2 ^ e / Nat.gcd (2 ^ (e + P)) (C * 2 ^ e) = C / Nat.gcd (2 ^ P) C ∧ 2 ^ (e + P) / Nat.gcd (2 ^ (e + P)) (C * 2 ^ e) = 2 ^ P / Nat.gcd (2 ^ P) C := by
  have hp : 0 < 2 ^ e := Nat.two_pow_pos e
  rw [Nat.pow_add, Nat.mul_comm (2 ^ e) (2 ^ P), Nat.gcd_mul_right]
  exact ⟨Nat.mul_div_mul_right _ _ hp, Nat.mul_div_mul_right _ _ hp⟩
end SHM
section SHX
variable {X : List Int32} {w w1 : ab_W} {r : Nat} {s : List Int32} {n : Nat} {st ks : List Int32} {kp : Bool} {tp : List Int32} {tn : Nat} {bo so nu : List Int32}
theorem x_admBare (XR : RowW w r s n) (I : SI s n) {f : Nat} (hf : f < 8) (c : Int32) : ab_M X kX2_admitting [.ref r, .int (nI f), .int c, .int 255, .int 0] w (some (.int (bs (shBare s n f c) 8))) w := by
  have h := x_admitting (X := X) XR I hf c 255 0
  have hn := XR.2.2.2.2.2.2.2
  rw [bs_cong (q := fun h => lwB s h f c false) (fun i hi => ?_), bs_8 hn] at h
  · exact h
  · show letV s i f c (lvG s 255 0 f i) = lwB s i f c false
    unfold lvG
    rw [b_255, b_0, if_neg (by decide), decide_eq_true (show i < 8 by omega), if_pos rfl, letV_w, b_0]
theorem nn_self {p : Nat → Bool} {hs : Nat} (h : hs < 8) : bs p 8 &&& (1 : Int32) <<< (nI hs &&& 31) = bs (fun i => p i && decide (i = hs)) 8 := by
  apply b_ext
  intro i hi
  rw [b_and, bt_bs _ _ _ (by decide) hi, bt_bs _ _ _ (by decide) hi, b_sh (by omega) hi]
  cases decide (i < 8) <;> rfl
theorem nn_oth {p : Nat → Bool} {hs : Nat} (h : hs < 8) : bs p 8 &&& (((1 : Int32) <<< (nI hs &&& 31)) ^^^ (-1)) = bs (fun i => p i && !decide (i = hs)) 8 := by
  apply b_ext
  intro i hi
  rw [b_and, b_xor, bt_bs _ _ _ (by decide) hi, bt_bs _ _ _ (by decide) hi, b_sh (by omega) hi, b_m1 i hi]
  cases decide (i < 8) <;> simp
theorem nn_sub {p : Nat → Bool} {m : Nat} (hm : m < 256) : (nI m &&& (bs p 8 ^^^ (-1)) = 0) ↔ anyR (fun h => bt (nI m) h && !p h) 8 = false := by
  have e : nI m &&& (bs p 8 ^^^ (-1)) = bs (fun h => bt (nI m) h && !p h) 8 := by
    conv => lhs; rw [nI_bs hm]
    exact bs_diff (by decide)
  rw [e, bs_zero (by decide), Bool.eq_false_iff, ne_eq, anyR_iff]
  constructor
  · rintro q ⟨h, hh, hb⟩
    rw [q h hh] at hb; cases hb
  · intro q h hh
    cases e : (bt (nI m) h && !p h) with
    | false => rfl
    | true => exact absurd ⟨h, hh, e⟩ q
theorem nn_or {p : Nat → Bool} {m : Nat} (hm : m < 256) : bs p 8 ||| nI m = bs (fun h => p h || (bt (nI m) h && decide (h < 8))) 8 := by
  conv => lhs; rw [nI_bs hm]
  rw [bs_or (by decide)]
  exact bs_cong (fun i hi => by rw [decide_eq_true hi, Bool.and_true])
set_option maxRecDepth 100000 in
set_option maxHeartbeats 4000000 in
theorem x_countNeeded (x0 : w[0]? = some (.inl (5, xObj kp))) (PJ : PlanJ w (adjB s n)) (hn : n ≤ 8) {f : Nat} (hr : homeN s f < 16) (c : Int32) (hs : Nat) : ab_Q X kX5_countNeeded [.ref 0, .int (nI (homeN s f)), .int (bs (shBare s n f c) 8), .int (bs (shSelf s n f c hs) 8), .int (bs (shOth s n f c hs) 8)] w (fun v w1 => v = some (.int (nI (shC s n f c hs))) ∧ PlanJ w1 (adjB s n) ∧ ∀ j, j ≠ 37 → w1[j]? = w[j]?) := by
  have p0 := PJ.1
  show ab_H X kX5_countNeeded 0 [some (.ref 0), some (.int (nI (homeN s f))), some (.int (bs (shBare s n f c) 8)), some (.int (bs (shSelf s n f c hs) 8)), some (.int (bs (shOth s n f c hs) 8)), none, none] [] w _
  refine h_k (y := 0) rfl rfl ?_
  refine h_s rfl ?_
  refine h_k (y := 0) rfl rfl ?_
  refine h_s rfl ?_
  refine h_loop0 256 (fun i ls v => ls = [some (.ref 0), some (.int (nI (homeN s f))), some (.int (bs (shBare s n f c) 8)), some (.int (bs (shSelf s n f c hs) 8)), some (.int (bs (shOth s n f c hs) 8)), some (.int (nI (cntR (shQ s n f c hs) i))), some (.int (nI i))] ∧ (∀ j, j ≠ 37 → v[j]? = w[j]?) ∧ PlanJ v (adjB s n)) ⟨rfl, fun _ _ => rfl, PJ⟩ (fun i ls v hi hJ ih => ?_) (fun ls v hJ => ?_)
  · obtain ⟨rfl, G, PJ⟩ := hJ
    have x0 := (G 0 (by decide)).trans x0
    have p0 := PJ.1
    have hcle := cntR_le (shQ s n f c hs) i
    refine h_s rfl ?_
    refine h_k (y := 256) rfl rfl ?_
    refine hN_ge (b := 256) rfl rfl rfl rfl (by omega) (by omega) (fun h11 => absurd h11 (by omega)) (fun h11 => ?_)
    refine h_s rfl ?_
    refine h1_eq rfl rfl (fun h15 => ?_) (fun h15 => ?_)
    · refine h_s rfl ?_
      have hz : shC s n f c hs = 0 := cnt_no (fun m _ => by
        unfold shQ shT
        have h1 := (bs_zero (by decide)).mp h15
        rw [offQ_cong (q := fun h => (shBare s n f c h || (bt (nI m) h && decide (h < 8))) || shSelf s n f c hs h) (q' := fun h => shBare s n f c h || (bt (nI m) h && decide (h < 8))) (fun h => ?_)]
        · cases offQ s n f (fun h => shBare s n f c h || (bt (nI m) h && decide (h < 8))) <;> simp
        · have h2 : shSelf s n f c hs h = false := by
            rcases Nat.lt_or_ge h 8 with q | q
            · exact h1 h q
            · cases e : shSelf s n f c hs h with
              | false => rfl
              | true =>
                unfold shSelf at e
                rw [Bool.and_eq_true] at e
                exact absurd (by_lt hn e.1) (by omega)
          rw [h2, Bool.or_false])
      have hi0 : cntR (shQ s n f c hs) i = 0 := by
        have h3 := cnt_add (shQ s n f c hs) i (256 - i)
        rw [show i + (256 - i) = 256 by omega] at h3
        have h4 : cntR (shQ s n f c hs) 256 = 0 := hz
        omega
      exact h_ri rfl rfl ⟨by rw [hi0, hz], PJ, G⟩
    · iterate 2 refine h_s rfl ?_
      refine h_k (y := (-1)) rfl rfl ?_
      iterate 2 refine h_s rfl ?_
      refine h1_ne rfl rfl (fun h25 => ?_) (fun h25 => ?_)
      · refine h_ii rfl rfl rfl ?_
        refine h_s rfl ?_
        have e0 : shQ s n f c hs i = false := by
          unfold shQ
          rw [show anyR (fun h => bt (nI i) h && !shOth s n f c hs h) 8 = true from by
            cases q : anyR (fun h => bt (nI i) h && !shOth s n f c hs h) 8 with
            | true => rfl
            | false => exact absurd ((nn_sub (by omega)).mpr q) h25]
          rfl
        exact ih _ _ ⟨by rw [show cntR (shQ s n f c hs) (i + 1) = cntR (shQ s n f c hs) i from by rw [cntR, e0]; rfl]; rfl, G, PJ⟩
      · refine h_s rfl ?_
        refine h_gf rfl rfl rfl x0 rfl ?_
        iterate 3 refine h_s rfl ?_
        refine h_s rfl ?_
        refine h_t (nn_or (by omega)) ?_
        refine h_s rfl ?_
        refine h_s rfl ?_
        refine h_t (bs_or (by decide)) ?_
        refine hq_v rfl rfl rfl p0 rfl rfl (x_shortQ PJ hn (f := f) (by omega) (fun h => (shBare s n f c h || (bt (nI i) h && decide (h < 8))) || shSelf s n f c hs h)) (fun v1 w1 q1 => ?_)
        obtain ⟨⟨L1, hL1, hQ1, rfl⟩, PJ, f1⟩ := q1
        have G : ∀ j, j ≠ 37 → w1[j]? = w[j]? := fun j hj => (f1 j hj).trans (G j hj)
        have x0 := (f1 0 (by decide)).trans x0
        have p0 := PJ.1
        refine h_n (st2 := [_]) rfl ?_
        refine hM_le rfl rfl rfl rfl (by omega) (fun h42 => ?_) (fun h42 => ?_)
        · refine h_ii rfl rfl rfl ?_
          refine h_s rfl ?_
          have e0 : shQ s n f c hs i = false := by
            unfold shQ
            unfold shT
            rw [← hQ1, decide_eq_true (show L1 = 0 by omega), Bool.not_true, Bool.and_false, Bool.and_false]
          exact ih _ _ ⟨by rw [show cntR (shQ s n f c hs) (i + 1) = cntR (shQ s n f c hs) i from by rw [cntR, e0]; rfl]; rfl, G, PJ⟩
        · refine h_s rfl ?_
          refine h_gf rfl rfl rfl x0 rfl ?_
          iterate 3 refine h_s rfl ?_
          refine h_s rfl ?_
          refine h_t (nn_or (by omega)) ?_
          refine hq_v rfl rfl rfl p0 rfl rfl (x_shortQ PJ hn (f := f) (by omega) (fun h => shBare s n f c h || (bt (nI i) h && decide (h < 8)))) (fun v2 w2 q2 => ?_)
          obtain ⟨⟨L2, hL2, hQ2, rfl⟩, PJ, f2⟩ := q2
          have G : ∀ j, j ≠ 37 → w2[j]? = w[j]? := fun j hj => (f2 j hj).trans (G j hj)
          have x0 := (f2 0 (by decide)).trans x0
          have p0 := PJ.1
          refine h_n (st2 := [_]) rfl ?_
          refine hM_ne rfl rfl rfl rfl (by omega) (fun h57 => ?_) (fun h57 => ?_)
          · refine h_ii rfl rfl rfl ?_
            refine h_s rfl ?_
            have e0 : shQ s n f c hs i = false := by
              unfold shQ
              unfold shT
              rw [← hQ2, decide_eq_false (show ¬ L2 = 0 by omega), Bool.false_and, Bool.and_false]
            exact ih _ _ ⟨by rw [show cntR (shQ s n f c hs) (i + 1) = cntR (shQ s n f c hs) i from by rw [cntR, e0]; rfl]; rfl, G, PJ⟩
          · refine h_ii rfl rfl rfl ?_
            refine h_ii rfl rfl rfl ?_
            refine h_s rfl ?_
            have e1 : shQ s n f c hs i = true := by
              unfold shQ shT
              rw [(nn_sub (by omega)).mp h25, ← hQ1, ← hQ2, decide_eq_true (show L2 = 0 by omega), decide_eq_false (show ¬ L1 = 0 by omega)]
              rfl
            exact ih _ _ ⟨by rw [show cntR (shQ s n f c hs) (i + 1) = cntR (shQ s n f c hs) i + 1 from by rw [cntR, e1]; rfl]; rfl, G, PJ⟩
  · obtain ⟨rfl, G, PJ⟩ := hJ
    refine h_s rfl ?_
    refine h_k (y := 256) rfl rfl ?_
    refine hN_ge (b := 256) rfl rfl rfl rfl (by omega) (by omega) (fun h11 => ?_) (fun h11 => absurd (by omega) h11)
    refine h_s rfl ?_
    exact h_ri rfl rfl ⟨rfl, PJ, G⟩
theorem share_le {hs : Nat} {c : Int32} {f : Nat} (hn : n ≤ 8) (hh : hs < n) : shC s n f c hs ≤ 128 := by
  obtain ⟨O, hO, -, hb, ho, hoh⟩ := oth_num (s := s) (f := f) (c := c) (hs := hs) hn
  obtain ⟨hN, hE⟩ := share_N hn hh hO hb ho hoh
  have h1 := sub_cnt hoh n (fun _ => true)
  have h2 : shC s n f c hs ≤ cntR (fun m => decide (m &&& O = m) && true) (2 ^ n) := by
    have e : shC s n f c hs = cntR (fun m => decide (m &&& O = m) && shT s n f c hs m) (2 ^ n) := by
      rw [← sub_up ho (shT s n f c hs) (8 - n), show n + (8 - n) = 8 by omega]
      exact cnt_cong (fun m hm => by rw [← sub_num hm hb]; rfl)
    rw [e]
    exact cntR_sub (fun i _ q => by simp only [Bool.and_eq_true] at q ⊢; exact ⟨q.1, trivial⟩)
  have h3 : cntR (fun m => !m.testBit hs && true) (2 ^ n) ≤ 128 := by
    have := (by decide +kernel : ∀ n, n ≤ 8 → ∀ hs, hs < n → cntR (fun m => !m.testBit hs && true) (2 ^ n) ≤ 128) n hn hs hh
    exact this
  have h4 : 1 ≤ 2 ^ exN O hs n := Nat.two_pow_pos _
  have h5 : cntR (fun m => decide (m &&& O = m) && true) (2 ^ n) ≤ cntR (fun m => decide (m &&& O = m) && true) (2 ^ n) * 2 ^ exN O hs n := Nat.le_mul_of_pos_right _ h4
  omega
set_option maxRecDepth 100000 in
set_option maxHeartbeats 4000000 in
theorem x_share_k (R : XW w s n st ks kp tp tn bo so nu) (I : SI s n) (h f c pt : Nat) (hh : h < n) (hf : f < n) (hc : c < 24) (hpt2 : pt < 2) : ab_Q X kX5_share [.ref 0, .int (nI h), .int (nI f), .int (nI c), .int (nI pt)] w (XP w (nI (shI s n f (nI c) h pt)) s n st ks kp tp tn bo so nu) := by
  have R0 := R
  obtain ⟨x0, XR, ⟨sd, nd, XD⟩, ⟨sk, nk, XK, hkp⟩, XPl, XT, XS, x45, xl⟩ := R
  have r0 := XR.1
  have p0 := XPl.1
  have d0 := XD.1
  have hn : n ≤ 8 := XR.2.2.2.2.2.2.2
  have RC := R0
  show ab_H X kX5_share 0 [some (.ref 0), some (.int (nI h)), some (.int (nI f)), some (.int (nI c)), some (.int (nI pt)), none, none, none, none, none, none, none, none] [] w _
  have hh0 := homeN_lt I hn hf
  refine h_s rfl ?_
  refine h_gf rfl rfl rfl x0 rfl ?_
  refine h_s rfl ?_
  refine h_cv rfl rfl rfl r0 rfl rfl (x_rhas XR (nI h)) ?_
  refine h_t (y := 1) (by rw [inN_n (by omega) (by omega)]; rfl) ?_
  refine h_n (st2 := [_]) rfl ?_
  iterate 4 refine h_s rfl ?_
  refine h_cv rfl rfl rfl x0 rfl rfl (x_isVisit x0 XR (nI f) (nI c)) ?_
  refine h_t (y := 1) (by rw [inN_n (by omega) (by omega), inN_n (by omega) (by omega)]; rfl) ?_
  refine h_n (st2 := [_]) rfl ?_
  iterate 2 refine h_s rfl ?_
  refine hM_lt rfl rfl rfl rfl (by omega) (fun h22 => absurd h22 (by omega)) (fun h22 => ?_)
  refine h_s rfl ?_
  refine h_k (y := 1) rfl rfl ?_
  refine hN_le (b := 1) rfl rfl rfl rfl (by omega) (by omega) (fun h28 => ?_) (fun h28 => absurd (by omega) h28)
  refine h_s rfl ?_
  refine h_gf rfl rfl rfl x0 rfl ?_
  refine h_s rfl ?_
  refine h_gf rfl rfl rfl x0 rfl ?_
  refine hq_v rfl rfl rfl p0 rfl rfl (x_draw XPl XR I (by omega)) (fun v1 w1 q1 => ?_)
  obtain ⟨rfl, PJ, f1⟩ := q1
  have G : ∀ i, (i < 34 ∨ 39 ≤ i) → w1[i]? = w[i]? := fun i hi => f1 i (by omega)
  have x0 := (G 0 (by decide)).trans x0
  have XR := XR.fr (w1 := w1) (fun i _ _ => G i (by omega))
  have r0 := XR.1
  have p0 := PJ.1
  refine h_n (st2 := []) rfl ?_
  refine h_s rfl ?_
  refine h_gf rfl rfl rfl x0 rfl ?_
  refine h_s rfl ?_
  refine h_cv rfl rfl rfl r0 rfl rfl (x_homeOf XR I hf) ?_
  refine h_n (st2 := [_]) rfl ?_
  iterate 2 refine h_s rfl ?_
  refine h_gf rfl rfl rfl x0 rfl ?_
  iterate 2 refine h_s rfl ?_
  refine h_k (y := 255) rfl rfl ?_
  refine h_k (y := 0) rfl rfl ?_
  refine h_cv rfl rfl rfl r0 rfl rfl (x_admBare XR I (show f < 8 by omega) (nI c)) ?_
  refine h_n (st2 := [_]) rfl ?_
  iterate 2 refine h_s rfl ?_
  refine h_gf rfl rfl rfl x0 rfl ?_
  iterate 2 refine h_s rfl ?_
  refine h_k (y := 0) rfl rfl ?_
  refine h_k (y := 0) rfl rfl ?_
  refine h_cv rfl rfl rfl r0 rfl rfl (x_lett XR I (show f < 8 by omega) (nI c)) ?_
  refine h_n (st2 := [_]) rfl ?_
  refine h_s rfl ?_
  refine h_k (y := (-1)) rfl rfl ?_
  refine h_s rfl ?_
  refine h_s rfl ?_
  refine h_t (y := bs (shBy s n f (nI c)) 8) (bs_diff (by decide)) ?_
  iterate 2 refine h_s rfl ?_
  refine h_k (y := 1) rfl rfl ?_
  iterate 2 refine h_s rfl ?_
  refine h_s rfl ?_
  refine h_t (y := bs (shSelf s n f (nI c) h) 8) (nn_self (by omega)) ?_
  iterate 2 refine h_s rfl ?_
  refine h_k (y := 1) rfl rfl ?_
  iterate 2 refine h_s rfl ?_
  refine h_k (y := (-1)) rfl rfl ?_
  refine h_s rfl ?_
  refine h_s rfl ?_
  refine h_t (y := bs (shOth s n f (nI c) h) 8) (nn_oth (by omega)) ?_
  iterate 6 refine h_s rfl ?_
  refine hq_v rfl rfl rfl x0 rfl rfl (x_countNeeded x0 PJ hn (f := f) (by omega) (nI c) h) (fun v2 w2 q2 => ?_)
  obtain ⟨rfl, PJ, f2⟩ := q2
  have G : ∀ i, (i < 34 ∨ 39 ≤ i) → w2[i]? = w[i]? := fun i hi => (f2 i (by omega)).trans (G i hi)
  have x0 := (f2 0 (by decide)).trans x0
  have XR := XR.fr (w1 := w2) (fun i _ _ => f2 i (by omega))
  have r0 := XR.1
  have p0 := PJ.1
  refine h_n (st2 := [_]) rfl ?_
  refine h_s rfl ?_
  refine h_k (y := 1) rfl rfl ?_
  refine h_s rfl ?_
  refine h_c rfl (x_bitsB (p := shOth s n f (nI c) h) (by decide)) ?_
  refine h_n (st2 := [_, _]) rfl ?_
  refine h_s rfl ?_
  refine h_t (y := nI (2 ^ shP s n f (nI c) h)) (sh_n _ (cntR_le _ _)) ?_
  refine h_s rfl ?_
  refine h_k (y := 0) rfl rfl ?_
  refine h_s rfl ?_
  obtain ⟨O, hO, -, hb, ho, hoh⟩ := oth_num (s := s) (f := f) (c := nI c) (hs := h) hn
  obtain ⟨hN, hE⟩ := share_N hn hh hO hb ho hoh
  obtain ⟨C0, hC0⟩ : ∃ C, shC s n f (nI c) h = C := ⟨_, rfl⟩
  obtain ⟨P0, hP0⟩ : ∃ P, shP s n f (nI c) h = P := ⟨_, rfl⟩
  have hCle : C0 * 2 ^ exN O h n ≤ 2 ^ n := by rw [← hC0, ← hN]; exact cntR_le _ _
  have hC128 : C0 ≤ 128 := by
    have h1 := share_le (s := s) (n := n) (f := f) (c := nI c) (hs := h) hn hh
    rw [hC0] at h1; exact h1
  have hP7 : P0 ≤ 7 := by rw [hP0] at hE; omega
  have hfin := hv_ok P0 hP7 C0 hC128
  have hI0 : shI s n f (nI c) h 0 = (hvN 8 (C0, 2 ^ P0)).1 := by unfold shI; rw [hC0, hP0, hfin, if_pos rfl]
  have hI1 : shI s n f (nI c) h 1 = (hvN 8 (C0, 2 ^ P0)).2 := by unfold shI; rw [hC0, hP0, hfin, if_neg (by decide)]
  have hPp : 2 ^ P0 ≤ 2 ^ 7 := Nat.pow_le_pow_right (by decide) hP7
  have hpt : pt = 0 ∨ pt = 1 := by omega
  rw [hC0, hP0]
  refine h_loop0 8 (fun i ls v => (∃ C B, C ≤ 128 ∧ B ≤ 128 ∧ hvN (8 - i) (C, B) = hvN 8 (C0, 2 ^ P0) ∧ ls = [some (.ref 0), some (.int (nI h)), some (.int (nI f)), some (.int (nI c)), some (.int (nI pt)), some (.int (nI (homeN s f))), some (.int (bs (shBare s n f (nI c)) 8)), some (.int (bs (shBy s n f (nI c)) 8)), some (.int (bs (shSelf s n f (nI c) h) 8)), some (.int (bs (shOth s n f (nI c) h) 8)), some (.int (nI C)), some (.int (nI B)), some (.int (nI i))]) ∧ w2 = v) ⟨⟨C0, 2 ^ P0, hC128, hPp, rfl, rfl⟩, rfl⟩ (fun i ls v hi hJ ih => ?_) (fun ls v hJ => ?_)
  · obtain ⟨⟨C, B, hC, hB, hv0, rfl⟩, hv⟩ := hJ
    subst hv
    rw [show 8 - i = (8 - (i + 1)) + 1 by omega, hvN] at hv0
    refine h_s rfl ?_
    refine h_k (y := 8) rfl rfl ?_
    refine hN_ge (b := 8) rfl rfl rfl rfl (by omega) (by omega) (fun h140 => absurd h140 (by omega)) (fun h140 => ?_)
    refine h_s rfl ?_
    refine h_k (y := 2) rfl rfl ?_
    refine h_Nrem (b := 2) rfl rfl rfl (by omega) (by omega) (by omega) ?_
    refine hM_ne rfl rfl rfl rfl (by omega) (fun h147 => ?_) (fun h147 => ?_)
    · refine h_s rfl ?_
      refine hM_ne rfl rfl rfl rfl (by omega) (fun h177 => ?_) (fun h177 => ?_)
      · refine h_s rfl ?_
        rw [if_neg (fun q => h147 q.1)] at hv0
        have e1 : pt = 1 := by omega
        refine h_ri rfl ?_ ⟨rfl, R0.plan PJ.x G, fun i hi => G i (by omega)⟩
        rw [e1, hI1, ← hv0]
      · iterate 2 refine h_s rfl ?_
        rw [if_neg (fun q => h147 q.1)] at hv0
        refine h_ri rfl ?_ ⟨rfl, R0.plan PJ.x G, fun i hi => G i (by omega)⟩
        rw [h177, hI0, ← hv0]
    · refine h_s rfl ?_
      refine h_k (y := 2) rfl rfl ?_
      refine h_Nrem (b := 2) rfl rfl rfl (by omega) (by omega) (by omega) ?_
      refine hM_ne rfl rfl rfl rfl (by omega) (fun h154 => ?_) (fun h154 => ?_)
      · refine h_s rfl ?_
        refine hM_ne rfl rfl rfl rfl (by omega) (fun h177 => ?_) (fun h177 => ?_)
        · refine h_s rfl ?_
          rw [if_neg (fun q => h154 q.2)] at hv0
          have e1 : pt = 1 := by omega
          refine h_ri rfl ?_ ⟨rfl, R0.plan PJ.x G, fun i hi => G i (by omega)⟩
          rw [e1, hI1, ← hv0]
        · iterate 2 refine h_s rfl ?_
          rw [if_neg (fun q => h154 q.2)] at hv0
          refine h_ri rfl ?_ ⟨rfl, R0.plan PJ.x G, fun i hi => G i (by omega)⟩
          rw [h177, hI0, ← hv0]
      · refine h_s rfl ?_
        refine h_k (y := 2) rfl rfl ?_
        refine h_Ndiv (b := 2) rfl rfl rfl (by omega) (by omega) (by omega) ?_
        iterate 2 refine h_s rfl ?_
        refine h_k (y := 2) rfl rfl ?_
        refine h_Ndiv (b := 2) rfl rfl rfl (by omega) (by omega) (by omega) ?_
        refine h_s rfl ?_
        refine h_ii rfl rfl rfl ?_
        refine h_s rfl ?_
        rw [if_pos ⟨h147, h154⟩] at hv0
        exact ih _ _ ⟨⟨C / 2, B / 2, by omega, by omega, hv0, rfl⟩, rfl⟩
  · obtain ⟨⟨C, B, hC, hB, hv0, rfl⟩, hv⟩ := hJ
    subst hv
    rw [show 8 - 8 = 0 from rfl, hvN] at hv0
    refine h_s rfl ?_
    refine h_k (y := 8) rfl rfl ?_
    refine hN_ge (b := 8) rfl rfl rfl rfl (by omega) (by omega) (fun h140 => ?_) (fun h140 => absurd (by omega) h140)
    refine h_s rfl ?_
    refine hM_ne rfl rfl rfl rfl (by omega) (fun h177 => ?_) (fun h177 => ?_)
    · refine h_s rfl ?_
      have e1 : pt = 1 := by omega
      refine h_ri rfl ?_ ⟨rfl, R0.plan PJ.x G, fun i hi => G i (by omega)⟩
      rw [e1, hI1, ← hv0]
    · iterate 2 refine h_s rfl ?_
      refine h_ri rfl ?_ ⟨rfl, R0.plan PJ.x G, fun i hi => G i (by omega)⟩
      rw [h177, hI0, ← hv0]
end SHX
