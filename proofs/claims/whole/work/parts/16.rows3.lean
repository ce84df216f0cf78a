/-! ROWS for calls that change the world: ab_H says what holds at the end; loops -/
def ab_H (X : List Int32) (k pc : Nat) (ls : List (Option Value)) (st : List Value) (w : ab_W) (Q : Option Value → ab_W → Prop) : Prop := ∃ v w', ab_G X k pc ls st w v w' ∧ Q v w'
def ab_Q (X : List Int32) (k : Nat) (as : List Value) (w : ab_W) (Q : Option Value → ab_W → Prop) : Prop := ab_H X k 0 (ab_ent (iL (ab_mi k)) as) [] w Q
section RH
variable {X : List Int32} {k k' pc pc' n : Nat} {ls ls' : List (Option Value)} {st st' as : List Value} {w w' w1 w2 : ab_W} {v v1 : Option Value} {Q Q1 : Option Value → ab_W → Prop}
theorem h_s (h : ab_stp X (ab_mi k) pc ls st w = some (.inl (pc', ls', st', w'))) (t : ab_H X k pc' ls' st' w' Q) : ab_H X k pc ls st w Q := by
  obtain ⟨v, w2, h1, h2⟩ := t
  exact ⟨v, w2, ab_s h h1, h2⟩
theorem h_r (h : ab_stp X (ab_mi k) pc ls st w = some (.inr (.inl (v, w2)))) (q : Q v w2) : ab_H X k pc ls st w Q := ⟨v, w2, ab_r h, q⟩
theorem h_c (h : ab_stp X (ab_mi k) pc ls st w = some (.inr (.inr (k', as, (pc', ls', st', w'))))) (a : ab_M X k' as w' v1 w1) (t : ab_H X k pc' ls' (v1.toList ++ st') w1 Q) : ab_H X k pc ls st w Q := by
  obtain ⟨v, w2, h1, h2⟩ := t
  exact ⟨v, w2, ab_c h a h1, h2⟩
theorem hq_c (h : ab_stp X (ab_mi k) pc ls st w = some (.inr (.inr (k', as, (pc', ls', st', w'))))) (a : ab_Q X k' as w' Q1) (t : ∀ v1 w1, Q1 v1 w1 → ab_H X k pc' ls' (v1.toList ++ st') w1 Q) : ab_H X k pc ls st w Q := by
  obtain ⟨v1, w1, h1, h2⟩ := a
  exact h_c h h1 (t v1 w1 h2)
theorem hq_of (a : ab_M X k as w v w2) (q : Q v w2) : ab_Q X k as w Q := ⟨v, w2, a, q⟩
theorem hq_m (a : ab_Q X k as w Q1) (q : ∀ v w2, Q1 v w2 → Q v w2) : ab_Q X k as w Q := by
  obtain ⟨v, w2, h1, h2⟩ := a
  exact ⟨v, w2, h1, q v w2 h2⟩
theorem h_gf {ix ci fi pl r : Nat} {nest : Bool} {vs : List Value} {u : Value} (h : ab_lk (it_ (ab_mi k)) pc = some (.getfield ix, n)) (hl : ab_lk (ab_fl (ic (ab_mi k))) ix = some (ci, fi, nest, pl)) (hc : (Nat.beq ci ci && Nat.blt ci 7) = true) (hw : w[r]? = some (.inl (ci, vs))) (hv : vs[fi]? = some u)
    (t : ab_H X k (pc + 3) ls (u :: st) w Q) : ab_H X k pc ls (.ref r :: st) w Q := by
  obtain ⟨v, w2, h1, h2⟩ := t
  exact ⟨v, w2, ab_gf h hl hc hw hv h1, h2⟩
theorem h_ia {r : Nat} {xs : List Int32} {i : Int32} (j : Nat) (h : ab_lk (it_ (ab_mi k)) pc = some (.iaload, n)) (hw : w[r]? = some (.inr xs)) (hm : xs.length < 2 ^ 31) (hi : i = nI j) (hj : j < xs.length)
    (t : ab_H X k (pc + 1) ls (.int (xs.getD j 0) :: st) w Q) : ab_H X k pc ls (.int i :: .ref r :: st) w Q := by
  obtain ⟨v, w2, h1, h2⟩ := t
  exact ⟨v, w2, ab_ia j h hw hm hi hj h1, h2⟩
theorem h_ix {q : Nat} {xs : List Int32} {i : Int32} (j : Nat) (h : ab_lk (it_ (ab_mi k)) pc = some (.iaload, n)) (hw : ab_xi X q = some xs) (hm : xs.length < 2 ^ 31) (hi : i = nI j) (hj : j < xs.length)
    (t : ab_H X k (pc + 1) ls (.int (xs.getD j 0) :: st) w Q) : ab_H X k pc ls (.int i :: .retAddr q :: st) w Q := by
  obtain ⟨v, w2, h1, h2⟩ := t
  exact ⟨v, w2, ab_ix j h hw hm hi hj h1, h2⟩
theorem h_al {r : Nat} {xs : List Int32} {x : Int32} (h : ab_lk (it_ (ab_mi k)) pc = some (.arraylength, n)) (hw : w[r]? = some (.inr xs)) (hx : nI xs.length = x)
    (t : ab_H X k (pc + 1) ls (.int x :: st) w Q) : ab_H X k pc ls (.ref r :: st) w Q := by
  obtain ⟨v, w2, h1, h2⟩ := t
  exact ⟨v, w2, ab_al h hw hx h1, h2⟩
theorem h_alq {r q : Nat} {xs : List Value} {x : Int32} (h : ab_lk (it_ (ab_mi k)) pc = some (.arraylength, n)) (hw : w[r]? = some (.inl (q, xs))) (hq : (Nat.beq q 7 || Nat.beq q 8) = true) (hx : nI xs.length = x)
    (t : ab_H X k (pc + 1) ls (.int x :: st) w Q) : ab_H X k pc ls (.ref r :: st) w Q := by
  obtain ⟨v, w2, h1, h2⟩ := t
  exact ⟨v, w2, ab_alq h hw hq hx h1, h2⟩
theorem h_aq {r q z : Nat} {xs : List Value} {i : Int32} (j : Nat) (h : ab_lk (it_ (ab_mi k)) pc = some (.aaload, n)) (hw : w[r]? = some (.inl (q, xs))) (hq : (Nat.beq q 7 || Nat.beq q 8) = true) (hm : xs.length < 2 ^ 31) (hi : i = nI j) (hj : xs[j]? = some (.ref z))
    (t : ab_H X k (pc + 1) ls (.ref z :: st) w Q) : ab_H X k pc ls (.int i :: .ref r :: st) w Q := by
  obtain ⟨v, w2, h1, h2⟩ := t
  exact ⟨v, w2, ab_aq j h hw hq hm hi hj h1, h2⟩
theorem wd_set {r : Nat} {c d : ab_E} (hw : w[r]? = some d) : (w.set r c)[r]? = some c := by
  have := (List.getElem?_eq_some_iff.mp hw).1
  rw [List.getElem?_set_self this]
theorem wd_ne {r i : Nat} {c : ab_E} (h : i ≠ r) : (w.set r c)[i]? = w[i]? := List.getElem?_set_ne (fun e => h e.symm)
/-- iastore: what the world is then -/
theorem h_is {r : Nat} {xs : List Int32} {i x : Int32} (j : Nat) (h : ab_lk (it_ (ab_mi k)) pc = some (.iastore, n)) (hw : w[r]? = some (.inr xs)) (hm : xs.length < 2 ^ 31) (hi : i = nI j) (hj : j < xs.length)
    (t : ∀ w1, w1[r]? = some (.inr (xs.set j x)) → (∀ i, i ≠ r → w1[i]? = w[i]?) → ab_H X k (pc + 1) ls st w1 Q) : ab_H X k pc ls (.int x :: .int i :: .ref r :: st) w Q := by
  obtain ⟨v, w2, h1, h2⟩ := t (w.set r (.inr (xs.set j x))) (wd_set hw) (fun i hi => wd_ne hi)
  exact ⟨v, w2, ab_is j h hw hm hi hj h1, h2⟩
theorem h_pf {ix ci fi pl r : Nat} {nest : Bool} {vs : List Value} {u : Value} (h : ab_lk (it_ (ab_mi k)) pc = some (.putfield ix, n)) (hl : ab_lk (ab_fl (ic (ab_mi k))) ix = some (ci, fi, nest, pl)) (hw : w[r]? = some (.inl (ci, vs))) (hc : (Nat.beq ci ci && Nat.blt ci 7 && Nat.blt fi vs.length && ab_fit (ab_cty ci fi) u && (!(ab_T ci fi).2.2.2 || ((iy (ab_mi k)).name == "<init>" && !nest && Nat.beq (ic (ab_mi k)) ci))) = true)
    (t : ∀ w1, w1[r]? = some (.inl (ci, vs.set fi u)) → (∀ i, i ≠ r → w1[i]? = w[i]?) → ab_H X k (pc + 3) ls st w1 Q) : ab_H X k pc ls (u :: .ref r :: st) w Q := by
  obtain ⟨v, w2, h1, h2⟩ := t (w.set r (.inl (ci, vs.set fi u))) (wd_set hw) (fun i hi => wd_ne hi)
  exact ⟨v, w2, ab_pf h hl hw hc h1, h2⟩
/-- branches -/
theorem h_j1 {c : Jvm.ClassFile.Cond} {off : Int} {x : Int32} {t : Nat} (h : ab_lk (it_ (ab_mi k)) pc = some (.ifCond c off, n)) (ht : ab_tg pc off = some t) (kt : ab_cmp c x 0 = true → ab_H X k t ls st w Q) (kf : ab_cmp c x 0 = false → ab_H X k (pc + 3) ls st w Q) : ab_H X k pc ls (.int x :: st) w Q := by
  cases hb : ab_cmp c x 0 with
  | true =>
    obtain ⟨v, w2, h1, h2⟩ := kt hb
    exact ⟨v, w2, ab_j1 h ht (fun _ => h1) (fun e => by rw [hb] at e; cases e), h2⟩
  | false =>
    obtain ⟨v, w2, h1, h2⟩ := kf hb
    exact ⟨v, w2, ab_j1 h ht (fun e => by rw [hb] at e; cases e) (fun _ => h1), h2⟩
theorem h_j2 {c : Jvm.ClassFile.Cond} {off : Int} {x y : Int32} {t : Nat} (h : ab_lk (it_ (ab_mi k)) pc = some (.if_icmp c off, n)) (ht : ab_tg pc off = some t) (kt : ab_cmp c x y = true → ab_H X k t ls st w Q) (kf : ab_cmp c x y = false → ab_H X k (pc + 3) ls st w Q) : ab_H X k pc ls (.int y :: .int x :: st) w Q := by
  cases hb : ab_cmp c x y with
  | true =>
    obtain ⟨v, w2, h1, h2⟩ := kt hb
    exact ⟨v, w2, ab_j2 h ht (fun _ => h1) (fun e => by rw [hb] at e; cases e), h2⟩
  | false =>
    obtain ⟨v, w2, h1, h2⟩ := kf hb
    exact ⟨v, w2, ab_j2 h ht (fun e => by rw [hb] at e; cases e) (fun _ => h1), h2⟩
theorem h1_eq {off : Int} {x : Int32} {t : Nat} (h : ab_lk (it_ (ab_mi k)) pc = some (.ifCond .eq off, n)) (ht : ab_tg pc off = some t) (kt : x = 0 → ab_H X k t ls st w Q) (kf : ¬ x = 0 → ab_H X k (pc + 3) ls st w Q) : ab_H X k pc ls (.int x :: st) w Q :=
  h_j1 h ht (fun e => kt (of_decide_eq_true e)) (fun e => kf (of_decide_eq_false e))
theorem h2_eq {off : Int} {x y : Int32} {t : Nat} (h : ab_lk (it_ (ab_mi k)) pc = some (.if_icmp .eq off, n)) (ht : ab_tg pc off = some t) (kt : x = y → ab_H X k t ls st w Q) (kf : ¬ x = y → ab_H X k (pc + 3) ls st w Q) : ab_H X k pc ls (.int y :: .int x :: st) w Q :=
  h_j2 h ht (fun e => kt (of_decide_eq_true e)) (fun e => kf (of_decide_eq_false e))
theorem h1_ne {off : Int} {x : Int32} {t : Nat} (h : ab_lk (it_ (ab_mi k)) pc = some (.ifCond .ne off, n)) (ht : ab_tg pc off = some t) (kt : ¬ x = 0 → ab_H X k t ls st w Q) (kf : x = 0 → ab_H X k (pc + 3) ls st w Q) : ab_H X k pc ls (.int x :: st) w Q :=
  h_j1 h ht (fun e => kt (of_decide_eq_false (by simpa [ab_cmp] using e))) (fun e => kf (of_decide_eq_true (by simpa [ab_cmp] using e)))
theorem h2_ne {off : Int} {x y : Int32} {t : Nat} (h : ab_lk (it_ (ab_mi k)) pc = some (.if_icmp .ne off, n)) (ht : ab_tg pc off = some t) (kt : ¬ x = y → ab_H X k t ls st w Q) (kf : x = y → ab_H X k (pc + 3) ls st w Q) : ab_H X k pc ls (.int y :: .int x :: st) w Q :=
  h_j2 h ht (fun e => kt (of_decide_eq_false (by simpa [ab_cmp] using e))) (fun e => kf (of_decide_eq_true (by simpa [ab_cmp] using e)))
theorem h1_lt {off : Int} {x : Int32} {t : Nat} (h : ab_lk (it_ (ab_mi k)) pc = some (.ifCond .lt off, n)) (ht : ab_tg pc off = some t) (kt : x < 0 → ab_H X k t ls st w Q) (kf : ¬ x < 0 → ab_H X k (pc + 3) ls st w Q) : ab_H X k pc ls (.int x :: st) w Q :=
  h_j1 h ht (fun e => kt (of_decide_eq_true e)) (fun e => kf (of_decide_eq_false e))
theorem h2_lt {off : Int} {x y : Int32} {t : Nat} (h : ab_lk (it_ (ab_mi k)) pc = some (.if_icmp .lt off, n)) (ht : ab_tg pc off = some t) (kt : x < y → ab_H X k t ls st w Q) (kf : ¬ x < y → ab_H X k (pc + 3) ls st w Q) : ab_H X k pc ls (.int y :: .int x :: st) w Q :=
  h_j2 h ht (fun e => kt (of_decide_eq_true e)) (fun e => kf (of_decide_eq_false e))
theorem h1_ge {off : Int} {x : Int32} {t : Nat} (h : ab_lk (it_ (ab_mi k)) pc = some (.ifCond .ge off, n)) (ht : ab_tg pc off = some t) (kt : 0 ≤ x → ab_H X k t ls st w Q) (kf : ¬ 0 ≤ x → ab_H X k (pc + 3) ls st w Q) : ab_H X k pc ls (.int x :: st) w Q :=
  h_j1 h ht (fun e => kt (of_decide_eq_true e)) (fun e => kf (of_decide_eq_false e))
theorem h2_ge {off : Int} {x y : Int32} {t : Nat} (h : ab_lk (it_ (ab_mi k)) pc = some (.if_icmp .ge off, n)) (ht : ab_tg pc off = some t) (kt : y ≤ x → ab_H X k t ls st w Q) (kf : ¬ y ≤ x → ab_H X k (pc + 3) ls st w Q) : ab_H X k pc ls (.int y :: .int x :: st) w Q :=
  h_j2 h ht (fun e => kt (of_decide_eq_true e)) (fun e => kf (of_decide_eq_false e))
theorem h1_gt {off : Int} {x : Int32} {t : Nat} (h : ab_lk (it_ (ab_mi k)) pc = some (.ifCond .gt off, n)) (ht : ab_tg pc off = some t) (kt : 0 < x → ab_H X k t ls st w Q) (kf : ¬ 0 < x → ab_H X k (pc + 3) ls st w Q) : ab_H X k pc ls (.int x :: st) w Q :=
  h_j1 h ht (fun e => kt (of_decide_eq_true e)) (fun e => kf (of_decide_eq_false e))
theorem h2_gt {off : Int} {x y : Int32} {t : Nat} (h : ab_lk (it_ (ab_mi k)) pc = some (.if_icmp .gt off, n)) (ht : ab_tg pc off = some t) (kt : y < x → ab_H X k t ls st w Q) (kf : ¬ y < x → ab_H X k (pc + 3) ls st w Q) : ab_H X k pc ls (.int y :: .int x :: st) w Q :=
  h_j2 h ht (fun e => kt (of_decide_eq_true e)) (fun e => kf (of_decide_eq_false e))
theorem h1_le {off : Int} {x : Int32} {t : Nat} (h : ab_lk (it_ (ab_mi k)) pc = some (.ifCond .le off, n)) (ht : ab_tg pc off = some t) (kt : x ≤ 0 → ab_H X k t ls st w Q) (kf : ¬ x ≤ 0 → ab_H X k (pc + 3) ls st w Q) : ab_H X k pc ls (.int x :: st) w Q :=
  h_j1 h ht (fun e => kt (of_decide_eq_true e)) (fun e => kf (of_decide_eq_false e))
theorem h2_le {off : Int} {x y : Int32} {t : Nat} (h : ab_lk (it_ (ab_mi k)) pc = some (.if_icmp .le off, n)) (ht : ab_tg pc off = some t) (kt : x ≤ y → ab_H X k t ls st w Q) (kf : ¬ x ≤ y → ab_H X k (pc + 3) ls st w Q) : ab_H X k pc ls (.int y :: .int x :: st) w Q :=
  h_j2 h ht (fun e => kt (of_decide_eq_true e)) (fun e => kf (of_decide_eq_false e))
theorem hz_eq {off : Int} {b : Bool} {t : Nat} (h : ab_lk (it_ (ab_mi k)) pc = some (.ifCond .eq off, n)) (ht : ab_tg pc off = some t) (kt : b = false → ab_H X k t ls st w Q) (kf : b = true → ab_H X k (pc + 3) ls st w Q) : ab_H X k pc ls (.int (z01 b) :: st) w Q :=
  h1_eq h ht (fun e => kt (z01_0 e)) (fun e => kf (z01_n0 e))
theorem hz_ne {off : Int} {b : Bool} {t : Nat} (h : ab_lk (it_ (ab_mi k)) pc = some (.ifCond .ne off, n)) (ht : ab_tg pc off = some t) (kt : b = true → ab_H X k t ls st w Q) (kf : b = false → ab_H X k (pc + 3) ls st w Q) : ab_H X k pc ls (.int (z01 b) :: st) w Q :=
  h1_ne h ht (fun e => kt (z01_n0 e)) (fun e => kf (z01_0 e))
theorem h_k {x y : Int32} {pc' : Nat} (h : ab_stp X (ab_mi k) pc ls st w = some (.inl (pc', ls, .int x :: st, w))) (e : x = y) (t : ab_H X k pc' ls (.int y :: st) w Q) : ab_H X k pc ls st w Q := h_s h (e ▸ t)
theorem h_t {x y : Int32} (e : x = y) (t : ab_H X k pc ls (.int y :: st) w Q) : ab_H X k pc ls (.int x :: st) w Q := e ▸ t
theorem h_ri {x y : Int32} {w' : ab_W} (h : ab_stp X (ab_mi k) pc ls [.int x] w = some (.inr (.inl (some (.int x), w')))) (e : x = y) (q : Q (some (.int y)) w') : ab_H X k pc ls [.int x] w Q := by
  subst e
  exact h_r h q
theorem h_rz {b : Bool} (h : ab_lk (it_ (ab_mi k)) pc = some (.ireturn, n)) (hr : ir (ab_mi k) = some .boolean) (q : Q (some (.int (z01 b))) w) : ab_H X k pc ls [.int (z01 b)] w Q := ⟨_, _, ab_rz h hr rfl, q⟩
theorem h_ii {i j : Nat} {x : Int32} (h : ab_lk (it_ (ab_mi k)) pc = some (.iinc i 1, n)) (hl : ls[i]? = some (some (.int x))) (hx : x = nI j) (t : ab_H X k (pc + 3) (ls.set i (some (.int (nI (j + 1))))) st w Q) : ab_H X k pc ls st w Q := by
  obtain ⟨v, w2, h1, h2⟩ := t
  exact ⟨v, w2, ab_ii h hl hx h1, h2⟩
theorem h_sw {d lo hi : Int} {offs : Array Int} {x : Int32} {off : Int} {t : Nat} (h : ab_lk (it_ (ab_mi k)) pc = some (.tableswitch d lo hi offs, n)) (hx : (decide (x.toInt < lo) || decide (hi < x.toInt)) = false) (ho : offs.toList[(x.toInt - lo).toNat]? = some off) (ht : ab_tg pc off = some t) (kk : ab_H X k t ls st w Q) : ab_H X k pc ls (.int x :: st) w Q := by
  obtain ⟨v, w2, h1, h2⟩ := kk
  exact ⟨v, w2, ab_sw h hx ho ht h1, h2⟩
theorem h_swd {d lo hi : Int} {offs : Array Int} {x : Int32} {t : Nat} (h : ab_lk (it_ (ab_mi k)) pc = some (.tableswitch d lo hi offs, n)) (hx : (decide (x.toInt < lo) || decide (hi < x.toInt)) = true) (ht : ab_tg pc d = some t) (kk : ab_H X k t ls st w Q) : ab_H X k pc ls (.int x :: st) w Q := by
  obtain ⟨v, w2, h1, h2⟩ := kk
  exact ⟨v, w2, ab_swd h hx ht h1, h2⟩
theorem hq_v {ix k' r ci pl : Nat} {nest : Bool} {vs as : List Value} (h : ab_lk (it_ (ab_mi k)) pc = some (.invokevirtual ix, n)) (hl : ab_lk (ab_me (ic (ab_mi k))) ix = some (k', nest, pl)) (hr : (st.take (in_ (ab_mi k'))).reverse = .ref r :: as) (hw : w[r]? = some (.inl (ci, vs)))
    (hc : (Nat.ble (in_ (ab_mi k')) st.length && Nat.blt (ih_ (ab_mi k')) (ih_ (ab_mi k)) && Nat.ble (iL (ab_mi k')) 13 && decide (((st.drop (in_ (ab_mi k'))).map Value.category).sum ≤ 8) && decide ((lg_sl (st.take (in_ (ab_mi k'))).reverse).length ≤ iL (ab_mi k'))) = true)
    (hcc : (Nat.beq ci (ic (ab_mi k')) && Nat.blt ci 7 && !is_ (ab_mi k') && !((iy (ab_mi k')).name == "<init>")) = true)
    (a : ab_Q X k' (.ref r :: as) w Q1) (t : ∀ v1 w1, Q1 v1 w1 → ab_H X k (pc + 3) ls (v1.toList ++ st.drop (in_ (ab_mi k'))) w1 Q) : ab_H X k pc ls st w Q := by
  obtain ⟨v1, w1, h1, h2⟩ := a
  obtain ⟨v, w2, h3, h4⟩ := t v1 w1 h2
  exact ⟨v, w2, ab_cv h hl hr hw hc hcc h1 h3, h4⟩
theorem h_cv {ix k' r ci pl : Nat} {nest : Bool} {vs as : List Value} (h : ab_lk (it_ (ab_mi k)) pc = some (.invokevirtual ix, n)) (hl : ab_lk (ab_me (ic (ab_mi k))) ix = some (k', nest, pl)) (hr : (st.take (in_ (ab_mi k'))).reverse = .ref r :: as) (hw : w[r]? = some (.inl (ci, vs)))
    (hc : (Nat.ble (in_ (ab_mi k')) st.length && Nat.blt (ih_ (ab_mi k')) (ih_ (ab_mi k)) && Nat.ble (iL (ab_mi k')) 13 && decide (((st.drop (in_ (ab_mi k'))).map Value.category).sum ≤ 8) && decide ((lg_sl (st.take (in_ (ab_mi k'))).reverse).length ≤ iL (ab_mi k'))) = true)
    (hcc : (Nat.beq ci (ic (ab_mi k')) && Nat.blt ci 7 && !is_ (ab_mi k') && !((iy (ab_mi k')).name == "<init>")) = true)
    (a : ab_M X k' (.ref r :: as) w v1 w1) (t : ab_H X k (pc + 3) ls (v1.toList ++ st.drop (in_ (ab_mi k'))) w1 Q) : ab_H X k pc ls st w Q := by
  obtain ⟨v, w2, h3, h4⟩ := t
  exact ⟨v, w2, ab_cv h hl hr hw hc hcc a h3, h4⟩
/-- a loop that counts -/
theorem g_loop (N : Nat) (J : Nat → List (Option Value) → Prop) (step : ∀ i ls, i < N → J i ls → (∀ ls', J (i + 1) ls' → ab_G X k pc ls' st w v w2) → ab_G X k pc ls st w v w2) (ex : ∀ ls, J N ls → ab_G X k pc ls st w v w2) : ∀ d i ls, i + d = N → J i ls → ab_G X k pc ls st w v w2
  | 0, i, ls, h, hj => ex ls (by rw [← h]; exact hj)
  | d + 1, i, ls, h, hj => step i ls (by omega) hj (fun ls' hj' => g_loop N J step ex d (i + 1) ls' (by omega) hj')
theorem g_loop0 (N : Nat) (J : Nat → List (Option Value) → Prop) (h0 : J 0 ls) (step : ∀ i ls, i < N → J i ls → (∀ ls', J (i + 1) ls' → ab_G X k pc ls' st w v w2) → ab_G X k pc ls st w v w2) (ex : ∀ ls, J N ls → ab_G X k pc ls st w v w2) : ab_G X k pc ls st w v w2 :=
  g_loop N J step ex N 0 ls (by omega) h0
theorem h_loop (N : Nat) (J : Nat → List (Option Value) → ab_W → Prop) (step : ∀ i ls w, i < N → J i ls w → (∀ ls' w', J (i + 1) ls' w' → ab_H X k pc ls' st w' Q) → ab_H X k pc ls st w Q) (ex : ∀ ls w, J N ls w → ab_H X k pc ls st w Q) : ∀ d i ls w, i + d = N → J i ls w → ab_H X k pc ls st w Q
  | 0, i, ls, w, h, hj => ex ls w (by rw [← h]; exact hj)
  | d + 1, i, ls, w, h, hj => step i ls w (by omega) hj (fun ls' w' hj' => h_loop N J step ex d (i + 1) ls' w' (by omega) hj')
theorem h_loop0 (N : Nat) (J : Nat → List (Option Value) → ab_W → Prop) (h0 : J 0 ls w) (step : ∀ i ls w, i < N → J i ls w → (∀ ls' w', J (i + 1) ls' w' → ab_H X k pc ls' st w' Q) → ab_H X k pc ls st w Q) (ex : ∀ ls w, J N ls w → ab_H X k pc ls st w Q) : ab_H X k pc ls st w Q :=
  h_loop N J step ex N 0 ls w (by omega) h0
end RH
