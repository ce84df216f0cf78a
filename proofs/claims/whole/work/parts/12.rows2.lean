/-- a boolean as the machine has it -/
def z01 (b : Bool) : Int32 := match b with
  | true => 1
  | false => 0
theorem z01_or (b : Bool) : z01 b = 0 ∨ z01 b = 1 := by cases b <;> simp [z01]
theorem z01_0 {b : Bool} (h : z01 b = 0) : b = false := by
  cases b
  · rfl
  · exact absurd h (by decide)
theorem z01_n0 {b : Bool} (h : ¬ z01 b = 0) : b = true := by
  cases b
  · exact absurd rfl h
  · rfl
section RW2
variable {X : List Int32} {k pc n : Nat} {ls : List (Option Value)} {st : List Value} {w w2 : ab_W} {v : Option Value}
theorem z1_eq {off : Int} {b : Bool} {t : Nat} (h : ab_lk (it_ (ab_mi k)) pc = some (.ifCond .eq off, n)) (ht : ab_tg pc off = some t) (kt : b = false → ab_G X k t ls st w v w2) (kf : b = true → ab_G X k (pc + 3) ls st w v w2) : ab_G X k pc ls (.int (z01 b) :: st) w v w2 :=
  j1_eq h ht (fun e => kt (z01_0 e)) (fun e => kf (z01_n0 e))
theorem z1_ne {off : Int} {b : Bool} {t : Nat} (h : ab_lk (it_ (ab_mi k)) pc = some (.ifCond .ne off, n)) (ht : ab_tg pc off = some t) (kt : b = true → ab_G X k t ls st w v w2) (kf : b = false → ab_G X k (pc + 3) ls st w v w2) : ab_G X k pc ls (.int (z01 b) :: st) w v w2 :=
  j1_ne h ht (fun e => kt (z01_n0 e)) (fun e => kf (z01_0 e))
/-- a boolean goes back as it came -/
theorem ab_rz {b c : Bool} (h : ab_lk (it_ (ab_mi k)) pc = some (.ireturn, n)) (hr : ir (ab_mi k) = some .boolean) (e : b = c) : ab_G X k pc ls [.int (z01 b)] w (some (.int (z01 c))) w := by
  subst e
  exact ab_rb h hr (z01_or b) rfl
/-- a counter goes up by one -/
theorem ab_ii {i j : Nat} {x : Int32} (h : ab_lk (it_ (ab_mi k)) pc = some (.iinc i 1, n)) (hl : ls[i]? = some (some (.int x))) (hx : x = nI j) (t : ab_G X k (pc + 3) (ls.set i (some (.int (nI (j + 1))))) st w v w2) : ab_G X k pc ls st w v w2 := by
  refine ab_s ?_ t
  rw [ab_stp_of h]
  unfold ab_ex
  simp only [hl]
  subst hx
  rw [nI_succ]
  rfl
/-- the places of a switch -/
theorem ab_sw {d lo hi : Int} {offs : Array Int} {x : Int32} {off : Int} {t : Nat} (h : ab_lk (it_ (ab_mi k)) pc = some (.tableswitch d lo hi offs, n)) (hx : (decide (x.toInt < lo) || decide (hi < x.toInt)) = false) (ho : offs.toList[(x.toInt - lo).toNat]? = some off) (ht : ab_tg pc off = some t) (kk : ab_G X k t ls st w v w2) : ab_G X k pc ls (.int x :: st) w v w2 := by
  refine ab_s ?_ kk
  rw [ab_stp_of h]
  unfold ab_ex
  simp only [hx, ho]
  unfold ab_go
  rw [ht]
  rfl
theorem ab_swd {d lo hi : Int} {offs : Array Int} {x : Int32} {t : Nat} (h : ab_lk (it_ (ab_mi k)) pc = some (.tableswitch d lo hi offs, n)) (hx : (decide (x.toInt < lo) || decide (hi < x.toInt)) = true) (ht : ab_tg pc d = some t) (kk : ab_G X k t ls st w v w2) : ab_G X k pc ls (.int x :: st) w v w2 := by
  refine ab_s ?_ kk
  rw [ab_stp_of h]
  unfold ab_ex
  simp only [hx]
  unfold ab_go
  rw [ht]
  rfl
end RW2
section RW3
variable {X : List Int32} {k pc n : Nat} {ls : List (Option Value)} {st : List Value} {w w1 w2 : ab_W} {v v1 : Option Value}
/-- a call on an object -/
theorem ab_cv {ix k' r ci pl : Nat} {nest : Bool} {vs as : List Value} (h : ab_lk (it_ (ab_mi k)) pc = some (.invokevirtual ix, n)) (hl : ab_lk (ab_me (ic (ab_mi k))) ix = some (k', nest, pl)) (hr : (st.take (in_ (ab_mi k'))).reverse = .ref r :: as) (hw : w[r]? = some (.inl (ci, vs)))
    (hc : (Nat.ble (in_ (ab_mi k')) st.length && Nat.blt (ih_ (ab_mi k')) (ih_ (ab_mi k)) && Nat.ble (iL (ab_mi k')) 13 && decide (((st.drop (in_ (ab_mi k'))).map Value.category).sum ≤ 8) && decide ((lg_sl (st.take (in_ (ab_mi k'))).reverse).length ≤ iL (ab_mi k'))) = true)
    (hcc : (Nat.beq ci (ic (ab_mi k')) && Nat.blt ci 7 && !is_ (ab_mi k') && !((iy (ab_mi k')).name == "<init>")) = true)
    (a : ab_M X k' (.ref r :: as) w v1 w1) (t : ab_G X k (pc + 3) ls (v1.toList ++ st.drop (in_ (ab_mi k'))) w1 v w2) : ab_G X k pc ls st w v w2 := by
  refine ab_c (k' := k') (as := .ref r :: as) (pc' := pc + 3) (ls' := ls) (st' := st.drop (in_ (ab_mi k'))) (w' := w) ?_ a t
  rw [ab_stp_of h]
  show ab_inv (ab_mi k) 1 pc ix ls st w = _
  unfold ab_inv
  simp only [hl]
  rw [hc]
  simp only [hr, hw]
  rw [hcc]
end RW3
