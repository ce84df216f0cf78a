/-! ROWS of the abstract machine that ask for something -/
section RW
variable {X : List Int32} {k pc n : Nat} {ls : List (Option Value)} {st : List Value} {w w2 : ab_W} {v : Option Value}
theorem ab_stp_of {i : Instr} (h : ab_lk (it_ (ab_mi k)) pc = some (i, n)) : ab_stp X (ab_mi k) pc ls st w = ab_ex X (ab_mi k) i pc ls st w := by
  unfold ab_stp
  rw [h]
/-- getfield -/
theorem ab_gf {ix ci fi pl r : Nat} {nest : Bool} {vs : List Value} {u : Value} (h : ab_lk (it_ (ab_mi k)) pc = some (.getfield ix, n)) (hl : ab_lk (ab_fl (ic (ab_mi k))) ix = some (ci, fi, nest, pl)) (hc : (Nat.beq ci ci && Nat.blt ci 7) = true) (hw : w[r]? = some (.inl (ci, vs))) (hv : vs[fi]? = some u)
    (t : ab_G X k (pc + 3) ls (u :: st) w v w2) : ab_G X k pc ls (.ref r :: st) w v w2 := by
  refine ab_s ?_ t
  rw [ab_stp_of h]
  show ab_getf _ pc ix ls (.ref r :: st) w = _
  unfold ab_getf
  simp only [hl, hw, hc, hv]
  rfl
/-- putfield, not final -/
theorem ab_pf {ix ci fi pl r : Nat} {nest : Bool} {vs : List Value} {u : Value} (h : ab_lk (it_ (ab_mi k)) pc = some (.putfield ix, n)) (hl : ab_lk (ab_fl (ic (ab_mi k))) ix = some (ci, fi, nest, pl)) (hw : w[r]? = some (.inl (ci, vs))) (hc : (Nat.beq ci ci && Nat.blt ci 7 && Nat.blt fi vs.length && ab_fit (ab_cty ci fi) u && (!(ab_T ci fi).2.2.2 || ((iy (ab_mi k)).name == "<init>" && !nest && Nat.beq (ic (ab_mi k)) ci))) = true)
    (t : ab_G X k (pc + 3) ls st (w.set r (.inl (ci, vs.set fi u))) v w2) : ab_G X k pc ls (u :: .ref r :: st) w v w2 := by
  refine ab_s ?_ t
  rw [ab_stp_of h]
  show ab_putf _ pc ix ls (u :: .ref r :: st) w = _
  unfold ab_putf
  simp only [hl, hw, hc]
  rfl
theorem ab_in_nI {j m : Nat} (h : j < m) (hm : m < 2 ^ 31) : ab_in (nI j) m = true := by
  unfold ab_in
  rw [nI_clamp (by omega)]
  simp only [Bool.and_eq_true, Bool.not_eq_true', decide_eq_false_iff_not, decide_eq_true_eq]
  exact ⟨nI_pos (by omega), h⟩
/-- iaload of an array inside -/
theorem ab_ia {r : Nat} {xs : List Int32} {i : Int32} (j : Nat) (h : ab_lk (it_ (ab_mi k)) pc = some (.iaload, n)) (hw : w[r]? = some (.inr xs)) (hm : xs.length < 2 ^ 31) (hi : i = nI j) (hj : j < xs.length)
    (t : ab_G X k (pc + 1) ls (.int (xs.getD j 0) :: st) w v w2) : ab_G X k pc ls (.int i :: .ref r :: st) w v w2 := by
  refine ab_s ?_ t
  rw [ab_stp_of h]
  show ab_iald X pc ls (.int i :: .ref r :: st) w = _
  unfold ab_iald
  subst hi
  simp only [hw, ab_in_nI hj hm, nI_clamp (show j < 2 ^ 31 by omega)]
  rfl
/-- iaload of an array outside -/
theorem ab_ix {q : Nat} {xs : List Int32} {i : Int32} (j : Nat) (h : ab_lk (it_ (ab_mi k)) pc = some (.iaload, n)) (hw : ab_xi X q = some xs) (hm : xs.length < 2 ^ 31) (hi : i = nI j) (hj : j < xs.length)
    (t : ab_G X k (pc + 1) ls (.int (xs.getD j 0) :: st) w v w2) : ab_G X k pc ls (.int i :: .retAddr q :: st) w v w2 := by
  refine ab_s ?_ t
  rw [ab_stp_of h]
  show ab_iald X pc ls (.int i :: .retAddr q :: st) w = _
  unfold ab_iald
  subst hi
  simp only [hw, ab_in_nI hj hm, nI_clamp (show j < 2 ^ 31 by omega)]
  rfl
/-- iastore -/
theorem ab_is {r : Nat} {xs : List Int32} {i x : Int32} (j : Nat) (h : ab_lk (it_ (ab_mi k)) pc = some (.iastore, n)) (hw : w[r]? = some (.inr xs)) (hm : xs.length < 2 ^ 31) (hi : i = nI j) (hj : j < xs.length)
    (t : ab_G X k (pc + 1) ls st (w.set r (.inr (xs.set j x))) v w2) : ab_G X k pc ls (.int x :: .int i :: .ref r :: st) w v w2 := by
  refine ab_s ?_ t
  rw [ab_stp_of h]
  show ab_iast pc ls (.int x :: .int i :: .ref r :: st) w = _
  unfold ab_iast
  subst hi
  simp only [hw, ab_in_nI hj hm, nI_clamp (show j < 2 ^ 31 by omega)]
  rfl
/-- arraylength -/
theorem ab_al {r : Nat} {xs : List Int32} {x : Int32} (h : ab_lk (it_ (ab_mi k)) pc = some (.arraylength, n)) (hw : w[r]? = some (.inr xs)) (hx : nI xs.length = x)
    (t : ab_G X k (pc + 1) ls (.int x :: st) w v w2) : ab_G X k pc ls (.ref r :: st) w v w2 := by
  refine ab_s ?_ t
  rw [ab_stp_of h]
  show ab_alen X pc ls (.ref r :: st) w = _
  unfold ab_alen
  simp only [hw]
  rw [← hx]
  rfl
theorem ab_alq {r q : Nat} {xs : List Value} {x : Int32} (h : ab_lk (it_ (ab_mi k)) pc = some (.arraylength, n)) (hw : w[r]? = some (.inl (q, xs))) (hq : (Nat.beq q 7 || Nat.beq q 8) = true) (hx : nI xs.length = x)
    (t : ab_G X k (pc + 1) ls (.int x :: st) w v w2) : ab_G X k pc ls (.ref r :: st) w v w2 := by
  refine ab_s ?_ t
  rw [ab_stp_of h]
  show ab_alen X pc ls (.ref r :: st) w = _
  unfold ab_alen
  simp only [hw, hq]
  rw [← hx]
  rfl
/-- aaload -/
theorem ab_aq {r q z : Nat} {xs : List Value} {i : Int32} (j : Nat) (h : ab_lk (it_ (ab_mi k)) pc = some (.aaload, n)) (hw : w[r]? = some (.inl (q, xs))) (hq : (Nat.beq q 7 || Nat.beq q 8) = true) (hm : xs.length < 2 ^ 31) (hi : i = nI j) (hj : xs[j]? = some (.ref z))
    (t : ab_G X k (pc + 1) ls (.ref z :: st) w v w2) : ab_G X k pc ls (.int i :: .ref r :: st) w v w2 := by
  refine ab_s ?_ t
  rw [ab_stp_of h]
  show ab_aald pc ls (.int i :: .ref r :: st) w = _
  unfold ab_aald
  subst hi
  have hl : j < xs.length := (List.getElem?_eq_some_iff.mp hj).1
  simp only [hw, hq, ab_in_nI hl hm, nI_clamp (show j < 2 ^ 31 by omega), hj, Bool.and_self]
  rfl
/-- branches -/
theorem ab_j1 {c : Jvm.ClassFile.Cond} {off : Int} {x : Int32} {t : Nat} (h : ab_lk (it_ (ab_mi k)) pc = some (.ifCond c off, n)) (ht : ab_tg pc off = some t) (kt : ab_cmp c x 0 = true → ab_G X k t ls st w v w2) (kf : ab_cmp c x 0 = false → ab_G X k (pc + 3) ls st w v w2) : ab_G X k pc ls (.int x :: st) w v w2 := by
  have e : ab_stp X (ab_mi k) pc ls (.int x :: st) w = ab_if (ab_cmp c x 0) pc off ls st w := by rw [ab_stp_of h]; rfl
  cases hb : ab_cmp c x 0 with
  | true =>
    refine ab_s ?_ (kt hb)
    rw [e, hb]
    unfold ab_if
    rw [ht]
    rfl
  | false =>
    refine ab_s ?_ (kf hb)
    rw [e, hb]
    unfold ab_if
    rw [ht]
    rfl
theorem ab_j2 {c : Jvm.ClassFile.Cond} {off : Int} {x y : Int32} {t : Nat} (h : ab_lk (it_ (ab_mi k)) pc = some (.if_icmp c off, n)) (ht : ab_tg pc off = some t) (kt : ab_cmp c x y = true → ab_G X k t ls st w v w2) (kf : ab_cmp c x y = false → ab_G X k (pc + 3) ls st w v w2) : ab_G X k pc ls (.int y :: .int x :: st) w v w2 := by
  have e : ab_stp X (ab_mi k) pc ls (.int y :: .int x :: st) w = ab_if (ab_cmp c x y) pc off ls st w := by rw [ab_stp_of h]; rfl
  cases hb : ab_cmp c x y with
  | true =>
    refine ab_s ?_ (kt hb)
    rw [e, hb]
    unfold ab_if
    rw [ht]
    rfl
  | false =>
    refine ab_s ?_ (kf hb)
    rw [e, hb]
    unfold ab_if
    rw [ht]
    rfl
theorem j1_eq {off : Int} {x : Int32} {t : Nat} (h : ab_lk (it_ (ab_mi k)) pc = some (.ifCond .eq off, n)) (ht : ab_tg pc off = some t) (kt : x = 0 → ab_G X k t ls st w v w2) (kf : ¬ x = 0 → ab_G X k (pc + 3) ls st w v w2) : ab_G X k pc ls (.int x :: st) w v w2 :=
  ab_j1 h ht (fun e => kt (of_decide_eq_true e)) (fun e => kf (of_decide_eq_false e))
theorem j1_ne {off : Int} {x : Int32} {t : Nat} (h : ab_lk (it_ (ab_mi k)) pc = some (.ifCond .ne off, n)) (ht : ab_tg pc off = some t) (kt : ¬ x = 0 → ab_G X k t ls st w v w2) (kf : x = 0 → ab_G X k (pc + 3) ls st w v w2) : ab_G X k pc ls (.int x :: st) w v w2 :=
  ab_j1 h ht (fun e => kt (of_decide_eq_false (by simpa [ab_cmp] using e))) (fun e => kf (of_decide_eq_true (by simpa [ab_cmp] using e)))
theorem j1_lt {off : Int} {x : Int32} {t : Nat} (h : ab_lk (it_ (ab_mi k)) pc = some (.ifCond .lt off, n)) (ht : ab_tg pc off = some t) (kt : x < 0 → ab_G X k t ls st w v w2) (kf : ¬ x < 0 → ab_G X k (pc + 3) ls st w v w2) : ab_G X k pc ls (.int x :: st) w v w2 :=
  ab_j1 h ht (fun e => kt (of_decide_eq_true e)) (fun e => kf (of_decide_eq_false e))
theorem j1_ge {off : Int} {x : Int32} {t : Nat} (h : ab_lk (it_ (ab_mi k)) pc = some (.ifCond .ge off, n)) (ht : ab_tg pc off = some t) (kt : 0 ≤ x → ab_G X k t ls st w v w2) (kf : ¬ 0 ≤ x → ab_G X k (pc + 3) ls st w v w2) : ab_G X k pc ls (.int x :: st) w v w2 :=
  ab_j1 h ht (fun e => kt (of_decide_eq_true e)) (fun e => kf (of_decide_eq_false e))
theorem j1_gt {off : Int} {x : Int32} {t : Nat} (h : ab_lk (it_ (ab_mi k)) pc = some (.ifCond .gt off, n)) (ht : ab_tg pc off = some t) (kt : 0 < x → ab_G X k t ls st w v w2) (kf : ¬ 0 < x → ab_G X k (pc + 3) ls st w v w2) : ab_G X k pc ls (.int x :: st) w v w2 :=
  ab_j1 h ht (fun e => kt (of_decide_eq_true e)) (fun e => kf (of_decide_eq_false e))
theorem j1_le {off : Int} {x : Int32} {t : Nat} (h : ab_lk (it_ (ab_mi k)) pc = some (.ifCond .le off, n)) (ht : ab_tg pc off = some t) (kt : x ≤ 0 → ab_G X k t ls st w v w2) (kf : ¬ x ≤ 0 → ab_G X k (pc + 3) ls st w v w2) : ab_G X k pc ls (.int x :: st) w v w2 :=
  ab_j1 h ht (fun e => kt (of_decide_eq_true e)) (fun e => kf (of_decide_eq_false e))
theorem j2_eq {off : Int} {x y : Int32} {t : Nat} (h : ab_lk (it_ (ab_mi k)) pc = some (.if_icmp .eq off, n)) (ht : ab_tg pc off = some t) (kt : x = y → ab_G X k t ls st w v w2) (kf : ¬ x = y → ab_G X k (pc + 3) ls st w v w2) : ab_G X k pc ls (.int y :: .int x :: st) w v w2 :=
  ab_j2 h ht (fun e => kt (of_decide_eq_true e)) (fun e => kf (of_decide_eq_false e))
theorem j2_ne {off : Int} {x y : Int32} {t : Nat} (h : ab_lk (it_ (ab_mi k)) pc = some (.if_icmp .ne off, n)) (ht : ab_tg pc off = some t) (kt : ¬ x = y → ab_G X k t ls st w v w2) (kf : x = y → ab_G X k (pc + 3) ls st w v w2) : ab_G X k pc ls (.int y :: .int x :: st) w v w2 :=
  ab_j2 h ht (fun e => kt (of_decide_eq_false (by simpa [ab_cmp] using e))) (fun e => kf (of_decide_eq_true (by simpa [ab_cmp] using e)))
theorem j2_lt {off : Int} {x y : Int32} {t : Nat} (h : ab_lk (it_ (ab_mi k)) pc = some (.if_icmp .lt off, n)) (ht : ab_tg pc off = some t) (kt : x < y → ab_G X k t ls st w v w2) (kf : ¬ x < y → ab_G X k (pc + 3) ls st w v w2) : ab_G X k pc ls (.int y :: .int x :: st) w v w2 :=
  ab_j2 h ht (fun e => kt (of_decide_eq_true e)) (fun e => kf (of_decide_eq_false e))
theorem j2_ge {off : Int} {x y : Int32} {t : Nat} (h : ab_lk (it_ (ab_mi k)) pc = some (.if_icmp .ge off, n)) (ht : ab_tg pc off = some t) (kt : y ≤ x → ab_G X k t ls st w v w2) (kf : ¬ y ≤ x → ab_G X k (pc + 3) ls st w v w2) : ab_G X k pc ls (.int y :: .int x :: st) w v w2 :=
  ab_j2 h ht (fun e => kt (of_decide_eq_true e)) (fun e => kf (of_decide_eq_false e))
theorem j2_gt {off : Int} {x y : Int32} {t : Nat} (h : ab_lk (it_ (ab_mi k)) pc = some (.if_icmp .gt off, n)) (ht : ab_tg pc off = some t) (kt : y < x → ab_G X k t ls st w v w2) (kf : ¬ y < x → ab_G X k (pc + 3) ls st w v w2) : ab_G X k pc ls (.int y :: .int x :: st) w v w2 :=
  ab_j2 h ht (fun e => kt (of_decide_eq_true e)) (fun e => kf (of_decide_eq_false e))
theorem j2_le {off : Int} {x y : Int32} {t : Nat} (h : ab_lk (it_ (ab_mi k)) pc = some (.if_icmp .le off, n)) (ht : ab_tg pc off = some t) (kt : x ≤ y → ab_G X k t ls st w v w2) (kf : ¬ x ≤ y → ab_G X k (pc + 3) ls st w v w2) : ab_G X k pc ls (.int y :: .int x :: st) w v w2 :=
  ab_j2 h ht (fun e => kt (of_decide_eq_true e)) (fun e => kf (of_decide_eq_false e))
/-- a constant by its number -/
theorem ab_k {x y : Int32} {pc' : Nat} (h : ab_stp X (ab_mi k) pc ls st w = some (.inl (pc', ls, .int x :: st, w))) (e : x = y) (t : ab_G X k pc' ls (.int y :: st) w v w2) : ab_G X k pc ls st w v w2 := ab_s h (e ▸ t)
/-- the top gets another form -/
theorem ab_t {x y : Int32} (e : x = y) (t : ab_G X k pc ls (.int y :: st) w v w2) : ab_G X k pc ls (.int x :: st) w v w2 := e ▸ t
/-- an int comes back -/
theorem ab_ri {x y : Int32} {w' : ab_W} (h : ab_stp X (ab_mi k) pc ls [.int x] w = some (.inr (.inl (some (.int x), w')))) (e : x = y) : ab_G X k pc ls [.int x] w (some (.int y)) w' := by
  subst e
  exact ab_r h
/-- a boolean comes back -/
theorem ab_rb {x y : Int32} (h : ab_lk (it_ (ab_mi k)) pc = some (.ireturn, n)) (hr : ir (ab_mi k) = some .boolean) (hb : x = 0 ∨ x = 1) (e : x = y) : ab_G X k pc ls [.int x] w (some (.int y)) w := by
  subst e
  refine ab_r ?_
  rw [ab_stp_of h]
  rcases hb with rfl | rfl <;> (unfold ab_ex; simp only [hr]; rfl)
end RW
