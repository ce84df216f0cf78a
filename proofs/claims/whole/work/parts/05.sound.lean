/-! SOUNDNESS: what the abstract machine does, the machine does -/
def ab_gw : List Jvm.Cond := lw_tbl.filter goodWord
def ab_nst : Jvm.Cond → Bool
  | .fieldLinkNest _ _ _ _ _ _ => true
  | .methodLinkNest _ _ _ _ => true
  | _ => false
def ab_lens : List Nat := ab_str.map List.length
def ab_v (N : Nat) (E : Nat → Value) : Value → Value
  | .ref r => .ref (N + r)
  | .retAddr j => E j
  | v => v
def ab_q (N : Nat) (vs : List Value) : Nat → Option Nat := fun j => match vs[j]? with
  | some (.ref r) => some (N + r)
  | _ => none
def ab_e (N : Nat) (E : Nat → Value) (cI cH cS : ClassId) : ab_E → va_E
  | .inr xs => .inl (cI, xs.length, .inl (fun j => xs.getD j 0))
  | .inl (k, vs) => if k = 7 then .inl (cH, vs.length, .inr (.inr (.inr (.inr (ab_q N vs))))) else if k = 8 then .inl (cS, vs.length, .inr (.inr (.inr (.inr (ab_q N vs))))) else .inr (k, vs.map (ab_v N E))
def ab_ws (N : Nat) (E : Nat → Value) (cI cH cS : ClassId) (w : ab_W) : va_W := w.mapIdx (fun i c => (N + i, ab_e N E cI cH cS c))
def ab_sl : ab_E → Nat
  | .inr xs => xs.length
  | .inl (_, vs) => vs.length
def ab_z (w : ab_W) : Nat := (w.map ab_sl).sum
theorem ab_lk_mem {α : Type} : ∀ (l : List (Nat × α)) (q : Nat) (x : α), ab_lk l q = some x → (q, x) ∈ l
  | [], _, _, h => by cases h
  | (p, y) :: l, q, x, h => by
    unfold ab_lk at h
    cases e : Nat.beq p q with
    | true =>
      rw [e] at h
      cases h
      rw [Nat.eq_of_beq_eq_true e]
      exact List.mem_cons_self
    | false =>
      rw [e] at h
      exact List.mem_cons_of_mem _ (ab_lk_mem l q x h)
theorem ab_nxe {pc pc' : Nat} {ls ls' : List (Option Value)} {st st' : List Value} {w w' : ab_W} (h : ab_nx pc ls st w = some (.inl (pc', ls', st', w'))) : pc = pc' ∧ ls = ls' ∧ st = st' ∧ w = w' := by
  unfold ab_nx at h
  cases h
  exact ⟨rfl, rfl, rfl, rfl⟩
theorem ab_tge {pc t : Nat} {off : Int} (h : ab_tg pc off = some t) : (pc : Int) + off = (t : Int) := by
  unfold ab_tg at h
  split at h
  next n e => cases h; exact e
  next => cases h
theorem ab_goe {pc pc' : Nat} {off : Int} {ls ls' : List (Option Value)} {st st' : List Value} {w w' : ab_W} (h : ab_go pc off ls st w = some (.inl (pc', ls', st', w'))) : (pc : Int) + off = (pc' : Int) ∧ ls = ls' ∧ st = st' ∧ w = w' := by
  unfold ab_go at h
  split at h
  next t e =>
    obtain ⟨rfl, h1, h2, h3⟩ := ab_nxe h
    exact ⟨ab_tge e, h1, h2, h3⟩
  next => cases h
theorem ab_ife {b : Bool} {pc pc' : Nat} {off : Int} {ls ls' : List (Option Value)} {st st' : List Value} {w w' : ab_W} (h : ab_if b pc off ls st w = some (.inl (pc', ls', st', w'))) : ls = ls' ∧ st = st' ∧ w = w' ∧ ∃ t : Nat, (pc : Int) + off = (t : Int) ∧ pc' = cond b t (pc + 3) := by
  unfold ab_if at h
  split at h
  next t e =>
    split at h
    · obtain ⟨rfl, h1, h2, h3⟩ := ab_nxe h
      exact ⟨h1, h2, h3, t, ab_tge e, rfl⟩
    · obtain ⟨rfl, h1, h2, h3⟩ := ab_nxe h
      exact ⟨h1, h2, h3, t, ab_tge e, rfl⟩
  next => cases h
theorem ab_in_iff {i : Int32} {n : Nat} (h : ab_in i n = true) : vp_in i n := by
  unfold ab_in at h
  simp only [Bool.and_eq_true, Bool.not_eq_true', decide_eq_false_iff_not, decide_eq_true_eq] at h
  rintro (q | q)
  · exact h.1 q
  · omega
section SW
variable {N : Nat} {E : Nat → Value} {cI cH cS : ClassId}
theorem ab_ws_get {w : ab_W} {i : Nat} {x : ab_E} (h : w[i]? = some x) : (ab_ws N E cI cH cS w)[i]? = some (N + i, ab_e N E cI cH cS x) := by
  simp [ab_ws, h]
theorem ab_ws_set {w : ab_W} {i : Nat} {x : ab_E} : (ab_ws N E cI cH cS w).set i (N + i, ab_e N E cI cH cS x) = ab_ws N E cI cH cS (w.set i x) := by
  unfold ab_ws
  apply List.ext_getElem?
  intro j
  by_cases hj : i = j
  · subst hj
    by_cases hl : i < w.length
    · simp [List.getElem?_set, hl]
    · simp [List.getElem?_set, hl]
  · simp [List.getElem?_set, hj]
theorem ab_ws_app {w : ab_W} {x : ab_E} : ab_ws N E cI cH cS w ++ [(N + w.length, ab_e N E cI cH cS x)] = ab_ws N E cI cH cS (w ++ [x]) := by
  unfold ab_ws
  rw [List.mapIdx_append]
  simp
theorem ab_ws_D (w : ab_W) : va_D (fun q => N ≤ q) (ab_ws N E cI cH cS w) := by
  have key : ∀ (k : Nat) (q : Nat × va_E), (ab_ws N E cI cH cS w)[k]? = some q → q.1 = N + k := by
    intro k q h
    unfold ab_ws at h
    rw [List.getElem?_mapIdx] at h
    cases hw : w[k]? with
    | none => rw [hw] at h; cases h
    | some x => rw [hw] at h; cases h; rfl
  refine ⟨fun i j p q hp hq e => ?_, fun k q h => ?_⟩
  · rw [key i p hp, key j q hq] at e
    omega
  · rw [key k q h]
    exact Nat.le_add_right _ _
theorem ab_z_set {w : ab_W} {i : Nat} {x y : ab_E} (h : w[i]? = some x) (e : ab_sl y = ab_sl x) : ab_z (w.set i y) = ab_z w := by
  unfold ab_z
  congr 1
  apply List.ext_getElem?
  intro j
  by_cases hj : i = j
  · subst hj
    have hl : i < w.length := (List.getElem?_eq_some_iff.mp h).1
    simp [List.getElem?_set, hl, e]
    rw [List.getElem?_eq_getElem hl] at h
    cases h
    rfl
  · simp [List.getElem?_set, hj]
theorem ab_e_i {xs : List Int32} : ab_e N E cI cH cS (.inr xs) = .inl (cI, xs.length, .inl (fun j => xs.getD j 0)) := rfl
theorem ab_e_o {k : Nat} {vs : List Value} (h : k < 7) : ab_e N E cI cH cS (.inl (k, vs)) = .inr (k, vs.map (ab_v N E)) := by
  unfold ab_e
  dsimp only
  rw [if_neg (by omega), if_neg (by omega)]
theorem ab_up_i {xs : List Int32} {i : Nat} {x : Int32} (h : i < xs.length) : upd (fun j => xs.getD j 0) i x = fun j => (xs.set i x).getD j 0 := by
  funext j
  unfold upd
  by_cases hj : j = i
  · subst hj
    simp [h, List.getElem?_set]
  · simp [hj, List.getElem?_set, Ne.symm hj]
theorem ab_up_q {vs : List Value} {i r : Nat} (h : i < vs.length) : va_up (ab_q N vs) i (some (N + r)) = ab_q N (vs.set i (.ref r)) := by
  funext j
  unfold va_up ab_q
  by_cases hj : j = i
  · subst hj
    simp [h, List.getElem?_set]
  · simp [hj, List.getElem?_set, Ne.symm hj]
end SW
/-- the locals as the abstract machine has them -/
def ab_ll (N : Nat) (E : Nat → Value) (ls : List (Option Value)) : List (Nat × Value) := (List.range ls.length).filterMap (fun j => match ls[j]? with
  | some (some v) => some (j, ab_v N E v)
  | _ => none)
def ab_L (N : Nat) (E : Nat → Value) (nL : Nat) (lsR : Array Slot) (ls : List (Option Value)) : Prop := ls.length ≤ nL ∧ lv_has lsR nL (ab_ll N E ls)
theorem ab_ll_mem {N : Nat} {E : Nat → Value} {ls : List (Option Value)} {j : Nat} {v : Value} (h : ls[j]? = some (some v)) : (j, ab_v N E v) ∈ ab_ll N E ls := by
  unfold ab_ll
  refine List.mem_filterMap.mpr ⟨j, List.mem_range.mpr (List.getElem?_eq_some_iff.mp h).1, ?_⟩
  rw [h]
theorem ab_ll_of {N : Nat} {E : Nat → Value} {ls : List (Option Value)} {q : Nat × Value} (h : q ∈ ab_ll N E ls) : ∃ v, ls[q.1]? = some (some v) ∧ q.2 = ab_v N E v := by
  unfold ab_ll at h
  obtain ⟨j, -, e⟩ := List.mem_filterMap.mp h
  split at e
  next v hv => cases e; exact ⟨v, hv, rfl⟩
  next => cases e
theorem ab_L_at {N : Nat} {E : Nat → Value} {nL : Nat} {lsR : Array Slot} {ls : List (Option Value)} (hL : ab_L N E nL lsR ls) {j : Nat} {v : Value} (h : ls[j]? = some (some v)) : lsR[j]? = some (.val (ab_v N E v)) := hL.2.2.2 _ (ab_ll_mem h)
theorem ab_v_cat {N : Nat} {E : Nat → Value} (hE : ∀ j, E j = .null ∨ ∃ a, E j = .ref a) (u : Value) : (ab_v N E u).category = u.category := by
  cases u with
  | retAddr j => rcases hE j with h | ⟨a, h⟩ <;> (show (E j).category = _; rw [h]; rfl)
  | _ => rfl
theorem ab_L_set1 {N : Nat} {E : Nat → Value} (hE : ∀ j, E j = .null ∨ ∃ a, E j = .ref a) {nL : Nat} {lsR' : Array Slot} {ls ls' : List (Option Value)} {i : Nat} {v : Value} (h : ab_set1 ls i v = some ls') (hL : ls.length ≤ nL)
    (h' : lv_has lsR' nL ((i, ab_v N E v) :: (ab_ll N E ls).filter (fun q => !(q.1 == i) && !(q.1 + 1 == i && q.2.category == 2)))) : ab_L N E nL lsR' ls' := by
  have key : ls' = ls.set i (some v) ∧ i < ls.length ∧ ∀ (j : Nat) (u : Value), i = j + 1 → ls[j]? = some (some u) → ¬ u.category = 2 := by
    unfold ab_set1 at h
    split at h
    · split at h
      next hl => cases h; exact ⟨rfl, hl, fun j x e => by omega⟩
      next => cases h
    · split at h
      next => cases h
      next => cases h
      next j hn1 hn2 =>
        split at h
        next hl =>
          cases h
          refine ⟨rfl, hl, fun j' u e e2 => ?_⟩
          cases e
          cases u with
          | long x => exact absurd e2 (hn1 x)
          | double x => exact absurd e2 (hn2 x)
          | _ => simp [Value.category]
        next => cases h
  obtain ⟨rfl, hl, hn⟩ := key
  refine ⟨by rw [List.length_set]; exact hL, h'.1, h'.2.1, fun q hq => ?_⟩
  obtain ⟨u, h1, h2⟩ := ab_ll_of hq
  refine h'.2.2 q ?_
  by_cases hj : i = q.1
  · rw [List.getElem?_set, if_pos hj, if_pos (hj ▸ hl)] at h1
    cases h1
    obtain ⟨q1, q2⟩ := q
    dsimp only at hj h2
    subst hj; subst h2
    exact List.mem_cons_self
  · rw [List.getElem?_set, if_neg hj] at h1
    refine List.mem_cons_of_mem _ (List.mem_filter.mpr ⟨?_, ?_⟩)
    · have := ab_ll_mem (N := N) (E := E) h1
      rw [← h2] at this
      exact this
    · have hne : (q.1 == i) = false := by simp; omega
      rw [hne]
      simp only [Bool.not_false, Bool.true_and, Bool.not_eq_true', Bool.and_eq_false_iff]
      by_cases h3 : q.1 + 1 = i
      · right
        rw [h2, ab_v_cat hE]
        have h4 := hn q.1 u h3.symm h1
        simp; exact h4
      · left
        simp; exact h3
theorem ab_set1_lt {ls ls' : List (Option Value)} {i : Nat} {v : Value} (h : ab_set1 ls i v = some ls') : i < ls.length := by
  unfold ab_set1 at h
  split at h
  · split at h
    next hl => exact hl
    next => cases h
  · split at h
    next => cases h
    next => cases h
    next =>
      split at h
      next hl => exact hl
      next => cases h
theorem ab_L_set2 {N : Nat} {E : Nat → Value} (hE : ∀ j, E j = .null ∨ ∃ a, E j = .ref a) {nL : Nat} {lsR' : Array Slot} {ls ls' : List (Option Value)} {i : Nat} {v : Value} (h : ab_set2 ls i v = some ls') (hL : ls.length ≤ nL)
    (h' : lv_has lsR' nL ((i, ab_v N E v) :: (ab_ll N E ls).filter (fun q => !(q.1 == i) && (!(q.1 == i + 1) && !(q.1 + 1 == i && q.2.category == 2))))) : ab_L N E nL lsR' ls' := by
  have key : ls' = (ls.set i (some v)).set (i + 1) none ∧ i + 1 < ls.length ∧ ∀ (j : Nat) (u : Value), i = j + 1 → ls[j]? = some (some u) → ¬ u.category = 2 := by
    unfold ab_set2 at h
    split at h
    · split at h
      next hl => cases h; exact ⟨rfl, hl, fun j x e => by omega⟩
      next => cases h
    · split at h
      next => cases h
      next => cases h
      next j hn1 hn2 =>
        split at h
        next hl =>
          cases h
          refine ⟨rfl, hl, fun j' u e e2 => ?_⟩
          cases e
          cases u with
          | long x => exact absurd e2 (hn1 x)
          | double x => exact absurd e2 (hn2 x)
          | _ => simp [Value.category]
        next => cases h
  obtain ⟨rfl, hl, hn⟩ := key
  refine ⟨by rw [List.length_set, List.length_set]; exact hL, h'.1, h'.2.1, fun q hq => ?_⟩
  obtain ⟨u, h1, h2⟩ := ab_ll_of hq
  refine h'.2.2 q ?_
  by_cases hk : i + 1 = q.1
  · rw [List.getElem?_set, if_pos hk] at h1
    split at h1 <;> cases h1
  rw [List.getElem?_set, if_neg hk] at h1
  by_cases hj : i = q.1
  · rw [List.getElem?_set, if_pos hj, if_pos (by omega)] at h1
    cases h1
    obtain ⟨q1, q2⟩ := q
    dsimp only at hj h2
    subst hj; subst h2
    exact List.mem_cons_self
  · rw [List.getElem?_set, if_neg hj] at h1
    refine List.mem_cons_of_mem _ (List.mem_filter.mpr ⟨?_, ?_⟩)
    · have := ab_ll_mem (N := N) (E := E) h1
      rw [← h2] at this
      exact this
    · have hne : (q.1 == i) = false := by simp; omega
      have hne2 : (q.1 == i + 1) = false := by simp; omega
      rw [hne, hne2]
      simp only [Bool.not_false, Bool.true_and, Bool.not_eq_true', Bool.and_eq_false_iff]
      by_cases h3 : q.1 + 1 = i
      · right
        rw [h2, ab_v_cat hE]
        have h4 := hn q.1 u h3.symm h1
        simp; exact h4
      · left
        simp; exact h3
theorem ab_set2_lt {ls ls' : List (Option Value)} {i : Nat} {v : Value} (h : ab_set2 ls i v = some ls') : i + 1 < ls.length := by
  unfold ab_set2 at h
  split at h
  · split at h
    next hl => exact hl
    next => cases h
  · split at h
    next => cases h
    next => cases h
    next =>
      split at h
      next hl => exact hl
      next => cases h
def ab_fm (as : List Value) : List (Option Value) := as.flatMap ab_f1
theorem ab_ent_mem {N : Nat} {E : Nat → Value} (hE : ∀ j, E j = .null ∨ ∃ a, E j = .ref a) : ∀ (as : List Value) (o i : Nat) (v : Value), (ab_fm as)[i]? = some (some v) → (o + i, ab_v N E v) ∈ lv_args o (as.map (ab_v N E))
  | [], o, i, v, h => by simp [ab_fm] at h
  | a :: as, o, i, v, h => by
    have ih := ab_ent_mem (N := N) hE as
    have e0 : ab_fm (a :: as) = ab_f1 a ++ ab_fm as := by
      unfold ab_fm
      rw [List.flatMap_cons]
    rw [e0] at h
    show _ ∈ lv_args o (ab_v N E a :: as.map (ab_v N E))
    unfold lv_args
    rw [ab_v_cat hE]
    by_cases hc : a.category = 2
    · have e1 : ab_f1 a = [some a, none] := by
        cases a <;> first | rfl | (simp [Value.category] at hc)
      rw [e1] at h
      match i, h with
      | 0, h => cases h; exact List.mem_cons_self
      | 1, h => cases h
      | i + 2, h =>
        have h' : (ab_fm as)[i]? = some (some v) := h
        have := ih (o + 2) i v h'
        refine List.mem_cons_of_mem _ ?_
        rw [if_pos hc, show o + (i + 2) = o + 2 + i by omega]
        exact this
    · have e1 : ab_f1 a = [some a] := by
        cases a <;> first | rfl | (simp [Value.category] at hc)
      rw [e1] at h
      match i, h with
      | 0, h => cases h; exact List.mem_cons_self
      | i + 1, h =>
        have h' : (ab_fm as)[i]? = some (some v) := h
        have := ih (o + 1) i v h'
        refine List.mem_cons_of_mem _ ?_
        rw [if_neg hc, show o + (i + 1) = o + 1 + i by omega]
        exact this
theorem ab_fm_len {N : Nat} {E : Nat → Value} (hE : ∀ j, E j = .null ∨ ∃ a, E j = .ref a) (as : List Value) : (ab_fm as).length = (lg_sl (as.map (ab_v N E))).length := by
  induction as with
  | nil => rfl
  | cons a as ih =>
    have e0 : ab_fm (a :: as) = ab_f1 a ++ ab_fm as := by
      unfold ab_fm
      rw [List.flatMap_cons]
    have e2 : lg_sl ((a :: as).map (ab_v N E)) = (if (ab_v N E a).category = 2 then [.val (ab_v N E a), .second] else [.val (ab_v N E a)]) ++ lg_sl (as.map (ab_v N E)) := by
      unfold lg_sl
      rw [List.map_cons, List.flatMap_cons]
    rw [e0, e2, List.length_append, List.length_append, ih, ab_v_cat hE]
    by_cases hc : a.category = 2
    · rw [if_pos hc]
      cases a <;> first | rfl | (simp [Value.category] at hc)
    · rw [if_neg hc]
      cases a <;> first | rfl | (simp [Value.category] at hc)
theorem ab_entry {N : Nat} {E : Nat → Value} (hE : ∀ j, E j = .null ∨ ∃ a, E j = .ref a) {L : Nat} {as : List Value} (h : (lg_sl (as.map (ab_v N E))).length ≤ L) : ab_L N E L ((lg_sl (as.map (ab_v N E)) ++ List.replicate (L - (lg_sl (as.map (ab_v N E))).length) Slot.unset).toArray) (ab_ent L as) := by
  have e0 : ab_ent L as = ab_fm as ++ List.replicate (L - (ab_fm as).length) none := rfl
  have hl := ab_fm_len (N := N) hE as
  have hv := lv_entry (as.map (ab_v N E)) h
  refine ⟨?_, hv.1, hv.2.1, fun q hq => ?_⟩
  · rw [e0, List.length_append, List.length_replicate]
    omega
  · obtain ⟨v, h1, h2⟩ := ab_ll_of hq
    refine hv.2.2 q ?_
    rw [e0] at h1
    by_cases hi : q.1 < (ab_fm as).length
    · rw [List.getElem?_append_left hi] at h1
      have := ab_ent_mem (N := N) hE as 0 q.1 v h1
      rw [Nat.zero_add, ← h2] at this
      exact this
    · rw [List.getElem?_append_right (by omega)] at h1
      have := List.eq_of_mem_replicate (List.mem_of_getElem? h1)
      cases this
/-! what holds outside, and of the tables -/
def ab_A (N : Nat) : Nat → Prop := fun q => N ≤ q
def ab_X2 (X : List Int32) (N : Nat) (E : Nat → Value) (U : State) (H : Heap) : Prop :=
  (∃ b : Nat, E 0 = .ref b ∧ va_X b X.length (fun j => X.getD j 0) U H ∧ b < N) ∧
  (∃ t : Nat, E 1 = .ref t ∧ va_Z "StairRow$House" "ABOVE" "[I" (.ref t) (ab_A N) U H ∧ va_T .int t 7 (fun j => .int (ab_above.getD j 0)) (ab_A N) U H) ∧
  (∃ adK adV : Nat → Nat, vk_S 17 ab_lens ab_str adK adV (ab_A N) U H ∧ (∀ i, i < 17 → E (10 + i) = .ref (adK i) ∧ E (50 + i) = .ref (adV i)) ∧ ∀ e ∈ ab_ks 4, vk_R "StairRow$Tape" e.1 (ab_strT.getD e.2.1 "") (adK e.2.1) U) ∧
  va_Z "java/lang/String" "COMPACT_STRINGS" "Z" (.int 1) (ab_A N) U H ∧
  va_Z "jdk/internal/util/Preconditions" "SIOOBE_FORMATTER" "Ljava/util/function/BiFunction;" (E 99) (ab_A N) U H
def ab_U (X : List Int32) (N : Nat) (E : Nat → Value) (cI cH cS : ClassId) (D : va_G) (w : ab_W) (U : State) : Prop :=
  va_P D vwCl (ab_ws N E cI cH cS w) U.heap ∧ U.heap.size = N + w.length ∧ va_K D vwCl [(cI, .int), (cH, .object RX0), (cS, .object RX3)] U ∧ va_AO RX0 U ∧ va_AO RX3 U ∧ (∀ x ∈ lw_tbl, ab_nst x = true → va_Nw x U) ∧ ab_X2 X N E U U.heap
theorem ab_Nw_warm {x : Jvm.Cond} (h : ab_nst x = true) {s U : State} (hW : s.WarmedH U.vm) (hZ : va_Nw x s) : va_Nw x U := by
  cases x with
  | fieldLinkNest a i b n d h => exact va_Nw.warmF hW hZ
  | methodLinkNest a i x h => exact va_Nw.warmM hW hZ
  | _ => cases h
theorem ab_Nw_same {x : Jvm.Cond} (h : ab_nst x = true) {s U : State} (hv : s.vm = U.vm) (hZ : va_Nw x s) : va_Nw x U := by
  cases x with
  | fieldLinkNest a i b n d h => exact va_Nw.same rfl hv hZ
  | methodLinkNest a i x h => exact va_Nw.same rfl hv hZ
  | _ => cases h
theorem ab_X2_at {X : List Int32} {N : Nat} {E : Nat → Value} {s U : State} {H : Heap} (hW : s.WarmedH U.vm) (hz : N ≤ s.heap.size) (hk : ∀ a : Nat, a < s.heap.size → ¬ ab_A N a → H[a]? = s.heap[a]?) (h : ab_X2 X N E s s.heap) : ab_X2 X N E U H := by
  have hal := hW.alike
  obtain ⟨⟨b, b1, b2, b3⟩, ⟨t, t1, t2, t3⟩, ⟨adK, adV, k1, k2, k3⟩, h4, h5⟩ := h
  exact ⟨⟨b, b1, (b2.kept (hk b (by omega) (by unfold ab_A; omega))).moved hal, b3⟩, ⟨t, t1, (t2.kept hk).moved hal, (t3.kept hk).moved hal⟩, ⟨adK, adV, (k1.kept hk).moved hal, k2, fun e he => (k3 e he).warm hW⟩, (h4.kept hk).moved hal, (h5.kept hk).moved hal⟩
theorem ab_U_blind {X : List Int32} {N : Nat} {E : Nat → Value} {cI cH cS : ClassId} {D : va_G} {w : ab_W} {s U : State} (hh : U.heap = s.heap) (hv : U.vm = s.vm) (h : ab_U X N E cI cH cS D w s) : ab_U X N E cI cH cS D w U := by
  obtain ⟨h1, h2, h3, h4, h5, h6, ⟨⟨b, b1, b2, b3⟩, ⟨t, t1, t2, t3⟩, ⟨adK, adV, k1, k2, k3⟩, h9, h10⟩⟩ := h
  have hal : s.vm.Alike U.vm := by rw [hv]; exact Vm.Alike.refl _
  refine ⟨by rw [hh]; exact h1, by rw [hh]; exact h2, va_K.moved hal h3, h4.moved hal, h5.moved hal, fun x hx hn => ab_Nw_same hn hv.symm (h6 x hx hn), ?_⟩
  rw [hh]
  exact ⟨⟨b, b1, b2.moved hal, b3⟩, ⟨t, t1, t2.moved hal, t3.moved hal⟩, ⟨adK, adV, k1.moved hal, k2, fun e he => (k3 e he).same hv⟩, h9.moved hal, h10.moved hal⟩
/-! the checks of the pool's rows -/
def ab_ckF (c : Nat) (e : Nat × Nat × Nat × Bool × Nat) : Bool := match e with
  | (ix, ci, fi, nest, p) => match Nat.blt ci 7 with
    | true => Nat.blt fi (ab_N ci) && decide (lw_tbl[p]? = some (cond nest (.fieldLinkNest (ab_nm c) ix (ab_nm ci) (ab_T ci fi).2.1 (ab_T ci fi).2.2.1 "StairRow") (.fieldLink (ab_nm c) ix (ab_nm ci) (ab_T ci fi).2.1 (ab_T ci fi).2.2.1)))
    | false => match fi with
      | 0 => decide (lw_tbl[p]? = some (.fieldLink (ab_nm c) ix "java/lang/String" "value" "[B"))
      | _ => decide (lw_tbl[p]? = some (.fieldLink (ab_nm c) ix "java/lang/String" "coder" "B"))
def ab_ckM (c : Nat) (e : Nat × Nat × Bool × Nat) : Bool := match e with
  | (ix, k, nest, p) => Nat.blt k 246 && decide (lw_tbl[p]? = some (cond nest (.methodLinkNest (ab_nm c) ix (iy (ab_mi k)) "StairRow") (.methodLink (ab_nm c) ix (iy (ab_mi k)))))
def ab_ckW (c : Nat) : Bool :=
  (ab_nw c).all (fun e => Nat.blt e.2.1 7 && decide (lw_tbl[e.2.2]? = some (.classLink (ab_nm c) e.1 (ab_nm e.2.1)))) &&
  (ab_na c).all (fun e => decide (lw_tbl[e.2.2]? = some (.classLink (ab_nm c) e.1 (ab_nm (ab_el e.2.1))))) &&
  (ab_ki c).all (fun e => decide (lw_tbl[e.2.2]? = some (.constant (ab_nm c) e.1 e.2.1))) &&
  (ab_kl c).all (fun e => decide (lw_tbl[e.2.2]? = some (.constantLong (ab_nm c) e.1 e.2.1))) &&
  (ab_ks c).all (fun e => Nat.beq c 4 && Nat.blt e.2.1 17) &&
  (ab_st c).all (fun e => decide (lw_tbl[e.2.2]? = some (match e.2.1 with
    | 0 => .fieldLink (ab_nm c) e.1 "StairRow$House" "ABOVE" "[I"
    | 1 => .fieldLink (ab_nm c) e.1 "java/lang/String" "COMPACT_STRINGS" "Z"
    | _ => .fieldLink (ab_nm c) e.1 "jdk/internal/util/Preconditions" "SIOOBE_FORMATTER" "Ljava/util/function/BiFunction;"))) &&
  (ab_ob c).all (fun e => decide (lw_tbl[e.2]? = some (.methodLink (ab_nm c) e.1 Lib.objectInit))) &&
  (ab_ac c).all (fun e => decide (lw_tbl[e.2]? = some (.methodLink (ab_nm c) e.1 arraycopyName))) &&
  (ab_mx c).all (fun e => decide (lw_tbl[e.2.2]? = some (.methodLink (ab_nm c) e.1 (match e.2.1 with | 0 => Lib.Math.max.name | _ => Lib.Math.min.name))))
theorem ab_c3F : (List.range 13).all (fun c => (ab_fl c).all (ab_ckF c)) = true := by decide +kernel
theorem ab_c3M : (List.range 13).all (fun c => (ab_me c).all (ab_ckM c)) = true := by decide +kernel
theorem ab_c3W : (List.range 13).all ab_ckW = true := by decide +kernel
theorem ab_cls : ∀ ci, ci < 7 → vwCl[ci]? = some (ab_nm ci, ab_T ci, ab_N ci) ∧ (∀ x ∈ u_ws (ab_nm ci) (ab_T ci) (ab_N ci), x ∈ ab_gw) ∧ (∀ k, k < ab_N ci → parseFieldDescriptor (ab_T ci k).2.2.1 = some (ab_cty ci k)) ∧ (∀ a, a < ab_N ci → ∀ b, b < ab_N ci → a ≠ b → (ab_T ci a).2.1 ≠ (ab_T ci b).2.1) ∧ (∀ k, k < ab_N ci → (ab_T ci k).1 = ab_nm ci) ∧ (Cond.instantiable (ab_nm ci) (ab_N ci) ∈ ab_gw) ∧ (Cond.initialized (ab_nm ci) ∈ ab_gw) := by
  have G : ∀ {ws : List Jvm.Cond}, (∀ x ∈ ws, x ∈ lw_tbl) → ws.all goodWord = true → ∀ x ∈ ws, x ∈ ab_gw := fun h1 h2 x hx => List.mem_filter.mpr ⟨h1 x hx, List.all_eq_true.mp h2 x hx⟩
  have P : ∀ (i : Nat) {x : Jvm.Cond}, lw_tbl[i]? = some x → goodWord x = true → x ∈ ab_gw := fun i x h1 h2 => List.mem_filter.mpr ⟨List.mem_of_getElem? h1, h2⟩
  intro ci h
  match ci, h with
  | 0, _ => exact ⟨rfl, G ab_inX0 (by decide +kernel), tyX0_ok, nmX0, by decide +kernel, P 149 (by decide +kernel) rfl, P 121 (by decide +kernel) rfl⟩
  | 1, _ => exact ⟨rfl, G ab_inX1 (by decide +kernel), tyX1_ok, nmX1, by decide +kernel, P 220 (by decide +kernel) rfl, P 122 (by decide +kernel) rfl⟩
  | 2, _ => exact ⟨rfl, G ab_inX2 (by decide +kernel), tyX2_ok, nmX2, by decide +kernel, P 142 (by decide +kernel) rfl, P 120 (by decide +kernel) rfl⟩
  | 3, _ => exact ⟨rfl, G ab_inX3 (by decide +kernel), tyX3_ok, nmX3, by decide +kernel, P 269 (by decide +kernel) rfl, P 124 (by decide +kernel) rfl⟩
  | 4, _ => exact ⟨rfl, G ab_inX4 (by decide +kernel), tyX4_ok, nmX4, by decide +kernel, P 239 (by decide +kernel) rfl, P 123 (by decide +kernel) rfl⟩
  | 5, _ => exact ⟨rfl, G ab_inX5 (by decide +kernel), tyX5_ok, nmX5, by decide +kernel, P 134 (by decide +kernel) rfl, P 119 (by decide +kernel) rfl⟩
  | 6, _ => exact ⟨rfl, G ab_inX6 (by decide +kernel), tyX6_ok, nmX6, by decide +kernel, P 951 (by decide +kernel) rfl, P 125 (by decide +kernel) rfl⟩
  | n + 7, h => exact absurd h (by omega)
def ab_B (p : Program) (s : State) (m : MethodId) (args : Array Value) (meth : Method) (c : Code) (mi : ab_I) (X : List Int32) (N : Nat) (E : Nat → Value) (cI cH cS : ClassId) (D : va_G) (w0 : ab_W) : Prop :=
  p.tables.exec = Jvm.exec ∧ c.code = ib mi ∧ c.maxLocals = iL mi ∧ s.vm.findClass (ab_nm (ic mi)) = some m.cls ∧ (∀ x ∈ ab_gw, x.before args s = true) ∧ ab_U X N E cI cH cS D w0 s ∧ meth.name = (iy mi).name ∧ ic mi < 13 ∧ (∀ j, E j = .null ∨ ∃ a, E j = .ref a) ∧ (1 ≤ ih_ mi)
def ab_J (p : Program) (l : Launch) (e : Env) (R : Room) (s : State) (m : MethodId) (args : Array Value) (below : List Frame) (meth : Method) (c : Code) (Q : State → Prop) (mi : ab_I) (N : Nat) (E : Nat → Value) (cI cH cS : ClassId) (D : va_G) (w0 : ab_W) (pc : Nat) (ls : List (Option Value)) (st : List Value) (w : ab_W) : Prop :=
  ∀ (H : Heap) (locs : List Loc) (lsR : Array Slot), va_P D vwCl (ab_ws N E cI cH cS w) H → H.size = N + w.length → va_S (ab_A N) s.heap H locs → ab_L N E (iL mi) lsR ls → W p l e R s m args below meth c H locs (w.length - w0.length) (ab_z w - ab_z w0) Q (F0 m pc lsR (st.map (ab_v N E)))
theorem ab_gwM {i : Nat} {x : Jvm.Cond} (h : lw_tbl[i]? = some x) (hg : goodWord x = true) : x ∈ ab_gw := List.mem_filter.mpr ⟨List.mem_of_getElem? h, hg⟩
theorem ab_fit_ok {N : Nat} {E : Nat → Value} (hE : ∀ j, E j = .null ∨ ∃ a, E j = .ref a) {ty : FieldType} {v : Value} (h : ab_fit ty v = true) : narrow ty (ab_v N E v) = ab_v N E v ∧ fits ty (ab_v N E v) = true := by
  have hA : ab_isA v = true → (ab_v N E v = .null ∨ ∃ a, ab_v N E v = .ref a) := by
    intro h
    cases v with
    | ref r => exact Or.inr ⟨_, rfl⟩
    | null => exact Or.inl rfl
    | retAddr j => exact hE j
    | _ => cases h
  cases ty with
  | int => cases v <;> first | (cases h; done) | exact ⟨rfl, rfl⟩
  | boolean =>
    cases v with
    | int v =>
      have h' : (v == 0 || v == 1) = true := h
      simp only [Bool.or_eq_true, beq_iff_eq] at h'
      rcases h' with rfl | rfl <;> exact ⟨rfl, rfl⟩
    | _ => cases h
  | object n => rcases hA h with e | ⟨a, e⟩ <;> (rw [e]; exact ⟨rfl, rfl⟩)
  | array t => rcases hA h with e | ⟨a, e⟩ <;> (rw [e]; exact ⟨rfl, rfl⟩)
  | _ => cases h
section ONE
variable {p : Program} {l : Launch} {e : Env} {R : Room} {s : State} {m : MethodId} {args : Array Value} {below : List Frame} {meth : Method} {c : Code} {Q : State → Prop} {mi : ab_I} {X : List Int32} {N : Nat} {E : Nat → Value} {cI cH cS : ClassId} {D : va_G} {w0 : ab_W}
variable {pc pc' : Nat} {ls ls' : List (Option Value)} {st st' : List Value} {w w' : ab_W}
theorem ab_newO (B : ab_B p s m args meth c mi X N E cI cH cS D w0) {ix ci pl : Nat} (hl : ab_lk (ab_nw (ic mi)) ix = some (ci, pl)) (hci : ci < 7) (hdg : decode (ib mi) pc = .ok (.new ix, 3)) (hg : w0.length ≤ w.length ∧ ab_z w0 ≤ ab_z w) (hR : (w ++ [Sum.inl (ci, ab_dfl ci)]).length - w0.length ≤ R.cells ∧ ab_z (w ++ [Sum.inl (ci, ab_dfl ci)]) - ab_z w0 ≤ R.slots)
    (k : ab_J p l e R s m args below meth c Q mi N E cI cH cS D w0 (pc + 3) ls (.ref w.length :: st) (w ++ [.inl (ci, ab_dfl ci)])) : ab_J p l e R s m args below meth c Q mi N E cI cH cS D w0 pc ls st w := by
  obtain ⟨hx, hb, hml, hown, hts, hU, hnm, hcl, hE, hh1⟩ := B
  obtain ⟨-, -, hK, -, -, -, -⟩ := hU
  obtain ⟨hv, hin, hty, hnn, hdc, hins, hini⟩ := ab_cls ci hci
  have hck : lw_tbl[pl]? = some (.classLink (ab_nm (ic mi)) ix (ab_nm ci)) := by
    have h1 := List.all_eq_true.mp ab_c3W (ic mi) (List.mem_range.mpr hcl)
    simp only [ab_ckW, Bool.and_eq_true] at h1
    have h2 := List.all_eq_true.mp h1.1.1.1.1.1.1.1.1 _ (ab_lk_mem _ _ _ hl)
    simp only [Bool.and_eq_true, decide_eq_true_eq] at h2
    exact h2.2
  intro H locs lsR hP hz hS hL
  have hKn := hK.1 ci _ hv
  have hlen : (w ++ [Sum.inl (ci, ab_dfl ci)]).length = w.length + 1 := by simp
  have hdl : ab_sl (.inl (ci, ab_dfl ci)) = ab_N ci := by simp [ab_sl, ab_dfl]
  have hzz : ab_z (w ++ [Sum.inl (ci, ab_dfl ci)]) = ab_z w + ab_N ci := by
    unfold ab_z
    rw [List.map_append, List.sum_append, List.map_singleton, hdl]
    simp
  rw [hlen, hzz] at hR
  refine W.newcK hx hb hown (hts _ (ab_gwM hck rfl)) (hts _ hins) (hts _ hini) rfl hdg (by omega) (by omega) hKn.2.1 hz fun H1 kC hkC e1 z1 o1 => ?_
  have hkp : ∀ (k : Nat) (x : Nat × va_E), (ab_ws N E cI cH cS w)[k]? = some x → H1[x.1]? = H[x.1]? := fun k x hx => o1 x.1 (by rw [← hz]; exact (hP k x hx).lt)
  have hde : ab_e N E cI cH cS (.inl (ci, ab_dfl ci)) = .inr (ci, (ab_dfl ci).map (ab_v N E)) := ab_e_o hci
  have hfs : ∀ j, j < ab_N ci → defaultValue (ab_cty ci j) = vp_V ((ab_dfl ci).map (ab_v N E)) j := by
    intro j hj
    unfold vp_V ab_dfl
    rw [List.getD_eq_getElem?_getD, List.getElem?_map, List.getElem?_map, List.getElem?_range hj]
    have : ∀ q, q < 7 → ∀ j, j < ab_N q → defaultValue (ab_cty q j) = ab_dv (ab_cty q j) ∧ ab_v N E (ab_dv (ab_cty q j)) = ab_dv (ab_cty q j) := by
      have h1 : ∀ q, q < 7 → ∀ j, j < ab_N q → defaultValue (ab_cty q j) = ab_dv (ab_cty q j) := by decide +kernel
      intro q hq j hj
      refine ⟨h1 q hq j hj, ?_⟩
      cases ab_cty q j <;> rfl
    obtain ⟨a1, a2⟩ := this ci hci j hj
    simp [a1, a2]
  have hP1 : va_P D vwCl (ab_ws N E cI cH cS (w ++ [.inl (ci, ab_dfl ci)])) H1 := by
    rw [← ab_ws_app]
    refine (hP.kept hkp).app (fun k x hx => ?_)
    have hk : k < 1 := (List.getElem?_eq_some_iff.mp hx).1
    rw [show k = 0 by omega] at hx
    cases hx
    show va_at D vwCl (N + w.length, ab_e N E cI cH cS (.inl (ci, ab_dfl ci))) H1
    rw [hde]
    exact ⟨_, hv, (u_born (ab_cty ci) hts hin hKn hkC e1 hty).to hfs⟩
  have hS1 : va_S (ab_A N) s.heap H1 locs := ⟨Nat.le_trans hS.1 (by omega), fun x h1 h2 => (o1 x (by rw [← hz]; exact Nat.lt_of_lt_of_le h1 hS.1)).trans (hS.2.1 x h1 h2), hS.2.2⟩
  have := k H1 locs lsR hP1 (by rw [z1, hlen]; omega) hS1 hL
  rw [hlen, hzz, show w.length + 1 - w0.length = w.length - w0.length + 1 by omega, show ab_z w + ab_N ci - ab_z w0 = ab_z w - ab_z w0 + ab_N ci by omega] at this
  exact this
theorem ab_newI (B : ab_B p s m args meth c mi X N E cI cH cS D w0) {n : Int32} (hn : ¬ n < 0) (hn2 : n.toNatClampNeg ≤ 100000) (hdg : decode (ib mi) pc = .ok (.newarray .int, 2)) (hg : w0.length ≤ w.length ∧ ab_z w0 ≤ ab_z w) (hR : (w ++ [Sum.inr (List.replicate n.toNatClampNeg 0)]).length - w0.length ≤ R.cells ∧ ab_z (w ++ [Sum.inr (List.replicate n.toNatClampNeg 0)]) - ab_z w0 ≤ R.slots)
    (k : ab_J p l e R s m args below meth c Q mi N E cI cH cS D w0 (pc + 2) ls (.ref w.length :: st) (w ++ [.inr (List.replicate n.toNatClampNeg 0)])) : ab_J p l e R s m args below meth c Q mi N E cI cH cS D w0 pc ls (.int n :: st) w := by
  obtain ⟨hx, hb, hml, hown, hts, hU, hnm, hcl, hE, hh1⟩ := B
  obtain ⟨-, -, hK, -, -, -, -⟩ := hU
  have harr : (Cond.arrayClass .int).before args s = true := hts _ (ab_gwM (i := 197) (by decide +kernel) rfl)
  intro H locs lsR hP hz hS hL
  have hlen : (w ++ [Sum.inr (List.replicate n.toNatClampNeg (0 : Int32))] : ab_W).length = w.length + 1 := by simp
  have hzz : ab_z (w ++ [Sum.inr (List.replicate n.toNatClampNeg (0 : Int32))]) = ab_z w + n.toNatClampNeg := by
    unfold ab_z
    rw [List.map_append, List.sum_append]
    simp [ab_sl]
  rw [hlen, hzz] at hR
  refine va_newaK (atype := .int) hx hb harr rfl hdg rfl hn rfl (by show _ * 4 ≤ _; omega) (by omega) (by omega) hz fun H1 cA e1 z1 o1 hAr hNm => ?_
  have hcA : cA = cI := by
    have h2 := (hK.2 0 _ rfl).2
    have h3 : s.vm.findClass ("[" ++ FieldType.int.toString) = some cI := h2
    have h4 : s.vm.findClass ("[" ++ FieldType.int.toString) = some cA := hNm
    exact Option.some.inj (h4.symm.trans h3)
  subst hcA
  have hkp : ∀ (k : Nat) (x : Nat × va_E), (ab_ws N E cA cH cS w)[k]? = some x → H1[x.1]? = H[x.1]? := fun k x hx => o1 x.1 (by rw [← hz]; exact (hP k x hx).lt)
  have hP1 : va_P D vwCl (ab_ws N E cA cH cS (w ++ [.inr (List.replicate n.toNatClampNeg 0)])) H1 := by
    rw [← ab_ws_app]
    refine (hP.kept hkp).app (fun k x hx => ?_)
    have hk : k < 1 := (List.getElem?_eq_some_iff.mp hx).1
    rw [show k = 0 by omega] at hx
    cases hx
    show H1[N + w.length]? = some (vp_cell cA _)
    rw [e1, vp_cell_i]
    rw [List.length_replicate]
    congr 1
    unfold arrV
    congr 2
    funext j
    have := j.2
    simp [List.getElem?_replicate, this]
    rfl
  have hS1 : va_S (ab_A N) s.heap H1 locs := ⟨Nat.le_trans hS.1 (by omega), fun x h1 h2 => (o1 x (by rw [← hz]; exact Nat.lt_of_lt_of_le h1 hS.1)).trans (hS.2.1 x h1 h2), hS.2.2⟩
  have := k H1 locs lsR hP1 (by rw [z1, hlen]; omega) hS1 hL
  rw [hlen, hzz, show w.length + 1 - w0.length = w.length - w0.length + 1 by omega, show ab_z w + n.toNatClampNeg - ab_z w0 = ab_z w - ab_z w0 + n.toNatClampNeg by omega] at this
  exact this
theorem ab_newQ (B : ab_B p s m args meth c mi X N E cI cH cS D w0) {n : Int32} {ix k0 pl : Nat} (hl : ab_lk (ab_na (ic mi)) ix = some (k0, pl)) (hk0 : k0 = 7 ∨ k0 = 8) (hn : ¬ n < 0) (hn2 : n.toNatClampNeg ≤ 100000) (hdg : decode (ib mi) pc = .ok (.anewarray ix, 3)) (hg : w0.length ≤ w.length ∧ ab_z w0 ≤ ab_z w) (hR : (w ++ [Sum.inl (k0, List.replicate n.toNatClampNeg Value.null)]).length - w0.length ≤ R.cells ∧ ab_z (w ++ [Sum.inl (k0, List.replicate n.toNatClampNeg Value.null)]) - ab_z w0 ≤ R.slots)
    (k : ab_J p l e R s m args below meth c Q mi N E cI cH cS D w0 (pc + 3) ls (.ref w.length :: st) (w ++ [.inl (k0, List.replicate n.toNatClampNeg .null)])) : ab_J p l e R s m args below meth c Q mi N E cI cH cS D w0 pc ls (.int n :: st) w := by
  obtain ⟨hx, hb, hml, hown, hts, hU, hnm, hcl, hE, hh1⟩ := B
  obtain ⟨-, -, hK, hO0, hO3, -, -⟩ := hU
  have hck : lw_tbl[pl]? = some (.classLink (ab_nm (ic mi)) ix (ab_nm (ab_el k0))) := by
    have h1 := List.all_eq_true.mp ab_c3W (ic mi) (List.mem_range.mpr hcl)
    simp only [ab_ckW, Bool.and_eq_true] at h1
    have h2 := List.all_eq_true.mp h1.1.1.1.1.1.1.1.2 _ (ab_lk_mem _ _ _ hl)
    simp only [decide_eq_true_eq] at h2
    exact h2
  have hAO : va_AO (ab_nm (ab_el k0)) s := by
    rcases hk0 with rfl | rfl
    · exact hO0
    · exact hO3
  intro H locs lsR hP hz hS hL
  have hlen : (w ++ [Sum.inl (k0, List.replicate n.toNatClampNeg Value.null)] : ab_W).length = w.length + 1 := by simp
  have hzz : ab_z (w ++ [Sum.inl (k0, List.replicate n.toNatClampNeg Value.null)]) = ab_z w + n.toNatClampNeg := by
    unfold ab_z
    rw [List.map_append, List.sum_append]
    simp [ab_sl]
  rw [hlen, hzz] at hR
  refine W.anew hx hb hown (hts _ (ab_gwM hck rfl)) (va_AO.use hAO) rfl hdg rfl hn (by omega) (by omega) (by omega) fun cA kA comp f1 f2 f3 f4 => ?_
  generalize hH1 : H.push ({ cls := cA, slots := Array.replicate n.toNatClampNeg .null, vm := .none } : Cell) = H1
  have z1 : H1.size = H.size + 1 := by rw [← hH1, Array.size_push]
  have e1 : H1[H.size]? = some (arrV cA n.toNatClampNeg (fun _ => .null)) := by rw [← hH1, Array.getElem?_push_size, ← arrV_new]
  have o1 : ∀ q : Nat, q < H.size → H1[q]? = H[q]? := fun q hq => by rw [← hH1, Array.getElem?_push, if_neg (Nat.ne_of_lt hq)]
  have hkp : ∀ (k : Nat) (x : Nat × va_E), (ab_ws N E cI cH cS w)[k]? = some x → H1[x.1]? = H[x.1]? := fun k x hx => o1 x.1 ((hP k x hx).lt)
  have hqn : ab_q N (List.replicate n.toNatClampNeg Value.null) = fun _ => none := by
    funext j
    unfold ab_q
    rw [List.getElem?_replicate]
    by_cases hj : j < n.toNatClampNeg <;> simp [hj]
  have hP1 : va_P D vwCl (ab_ws N E cI cH cS (w ++ [.inl (k0, List.replicate n.toNatClampNeg .null)])) H1 := by
    rw [← ab_ws_app]
    refine (hP.kept hkp).app (fun k x hx => ?_)
    have hk : k < 1 := (List.getElem?_eq_some_iff.mp hx).1
    rw [show k = 0 by omega] at hx
    cases hx
    rcases hk0 with rfl | rfl
    · have hcA : cA = cH := by
        obtain ⟨kB, comp2, g1, g2, g3, g4⟩ := (hK.2 1 _ rfl).2
        exact Option.some.inj (f1.symm.trans g4)
      subst hcA
      show H1[N + w.length]? = some (vp_cell cA ((List.replicate n.toNatClampNeg Value.null).length, .inr (.inr (.inr (.inr (ab_q N (List.replicate n.toNatClampNeg Value.null)))))))
      rw [hqn, List.length_replicate, vp_cell_q, ← hz]
      exact e1
    · have hcA : cA = cS := by
        obtain ⟨kB, comp2, g1, g2, g3, g4⟩ := (hK.2 2 _ rfl).2
        exact Option.some.inj (f1.symm.trans g4)
      subst hcA
      show H1[N + w.length]? = some (vp_cell cA ((List.replicate n.toNatClampNeg Value.null).length, .inr (.inr (.inr (.inr (ab_q N (List.replicate n.toNatClampNeg Value.null)))))))
      rw [hqn, List.length_replicate, vp_cell_q, ← hz]
      exact e1
  have hS1 : va_S (ab_A N) s.heap H1 locs := ⟨Nat.le_trans hS.1 (by omega), fun x h1 h2 => (o1 x (Nat.lt_of_lt_of_le h1 hS.1)).trans (hS.2.1 x h1 h2), hS.2.2⟩
  have := k H1 locs lsR hP1 (by rw [z1, hlen]; omega) hS1 hL
  rw [hlen, hzz, show w.length + 1 - w0.length = w.length - w0.length + 1 by omega, show ab_z w + n.toNatClampNeg - ab_z w0 = ab_z w - ab_z w0 + n.toNatClampNeg by omega] at this
  have e : (Value.ref w.length :: st).map (ab_v N E) = .ref H.size :: st.map (ab_v N E) := by rw [hz]; rfl
  rw [e] at this
  exact this
end ONE
