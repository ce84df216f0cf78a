/-! THE TWO OBJECTS ARE MADE, together -/
section IY
variable {X : List Int32} {w : ab_W}
def Z0 (n : Nat) : List Int32 := List.replicate n 0
set_option maxRecDepth 100000 in
set_option maxHeartbeats 4000000 in
theorem i_class (hl : w.length = 1) (x0 : w[0]? = some (.inl (5, ab_dfl 5))) : ab_Q X kX5_init [.ref 0] w (fun v w1 => v = none ∧ w1.length = 54 ∧ XW w1 S00 0 (Z0 7) (Z0 90) false (Z0 120) 0 (Z0 4) (Z0 4) (Z0 160)) := by
  show ab_H X kX5_init 0 [some (.ref 0), none] [] w _
  iterate 3 refine h_s rfl ?_
  refine h_newo rfl rfl rfl hl (fun w30 l30 c30 g30 => ?_)
  replace hl := l30
  replace x0 := (g30 _ (by omega)).trans x0
  refine h_s rfl ?_
  refine hq_c rfl (i_row (r := 1) hl c30) (fun v31 w31 q31 => ?_)
  obtain ⟨rfl, hl, R1, g31⟩ := q31
  replace x0 := (g31 _ (by omega)).trans x0
  refine h_n (st2 := [_, _]) rfl ?_
  refine h_pf rfl rfl x0 rfl (fun w32 e32 f32 => ?_)
  replace hl := len_fr x0 e32 f32 hl
  replace R1 := R1.fr (fun j _ _ => f32 j (by omega))
  replace x0 := e32
  refine h_s rfl ?_
  refine h_newo rfl rfl rfl hl (fun w33 l33 c33 g33 => ?_)
  replace hl := l33
  replace x0 := (g33 _ (by omega)).trans x0
  replace R1 := R1.fr (fun j _ _ => g33 j (by omega))
  refine h_s rfl ?_
  refine hq_c rfl (i_row (r := 12) hl c33) (fun v34 w34 q34 => ?_)
  obtain ⟨rfl, hl, R2, g34⟩ := q34
  replace x0 := (g34 _ (by omega)).trans x0
  replace R1 := R1.fr (fun j _ _ => g34 j (by omega))
  refine h_n (st2 := [_, _]) rfl ?_
  refine h_pf rfl rfl x0 rfl (fun w35 e35 f35 => ?_)
  replace hl := len_fr x0 e35 f35 hl
  replace R1 := R1.fr (fun j _ _ => f35 j (by omega))
  replace R2 := R2.fr (fun j _ _ => f35 j (by omega))
  replace x0 := e35
  refine h_s rfl ?_
  refine h_newo rfl rfl rfl hl (fun w36 l36 c36 g36 => ?_)
  replace hl := l36
  replace x0 := (g36 _ (by omega)).trans x0
  replace R1 := R1.fr (fun j _ _ => g36 j (by omega))
  replace R2 := R2.fr (fun j _ _ => g36 j (by omega))
  refine h_s rfl ?_
  refine hq_c rfl (i_row (r := 23) hl c36) (fun v37 w37 q37 => ?_)
  obtain ⟨rfl, hl, R3, g37⟩ := q37
  replace x0 := (g37 _ (by omega)).trans x0
  replace R1 := R1.fr (fun j _ _ => g37 j (by omega))
  replace R2 := R2.fr (fun j _ _ => g37 j (by omega))
  refine h_n (st2 := [_, _]) rfl ?_
  refine h_pf rfl rfl x0 rfl (fun w38 e38 f38 => ?_)
  replace hl := len_fr x0 e38 f38 hl
  replace R1 := R1.fr (fun j _ _ => f38 j (by omega))
  replace R2 := R2.fr (fun j _ _ => f38 j (by omega))
  replace R3 := R3.fr (fun j _ _ => f38 j (by omega))
  replace x0 := e38
  refine h_s rfl ?_
  refine h_k (y := 0) rfl rfl ?_
  refine h_pf rfl rfl x0 rfl (fun w39 e39 f39 => ?_)
  replace hl := len_fr x0 e39 f39 hl
  replace R1 := R1.fr (fun j _ _ => f39 j (by omega))
  replace R2 := R2.fr (fun j _ _ => f39 j (by omega))
  replace R3 := R3.fr (fun j _ _ => f39 j (by omega))
  replace x0 := e39
  refine h_s rfl ?_
  refine h_newo rfl rfl rfl hl (fun w40 l40 c40 g40 => ?_)
  replace hl := l40
  replace x0 := (g40 _ (by omega)).trans x0
  replace R1 := R1.fr (fun j _ _ => g40 j (by omega))
  replace R2 := R2.fr (fun j _ _ => g40 j (by omega))
  replace R3 := R3.fr (fun j _ _ => g40 j (by omega))
  refine h_s rfl ?_
  refine hq_c rfl (i_plan (r := 34) hl c40) (fun v41 w41 q41 => ?_)
  obtain ⟨rfl, hl, p0, p1, p2, p3, p4, g41⟩ := q41
  replace x0 := (g41 _ (by omega)).trans x0
  replace R1 := R1.fr (fun j _ _ => g41 j (by omega))
  replace R2 := R2.fr (fun j _ _ => g41 j (by omega))
  replace R3 := R3.fr (fun j _ _ => g41 j (by omega))
  refine h_n (st2 := [_, _]) rfl ?_
  refine h_pf rfl rfl x0 rfl (fun w42 e42 f42 => ?_)
  replace hl := len_fr x0 e42 f42 hl
  replace R1 := R1.fr (fun j _ _ => f42 j (by omega))
  replace R2 := R2.fr (fun j _ _ => f42 j (by omega))
  replace R3 := R3.fr (fun j _ _ => f42 j (by omega))
  replace p0 := (f42 _ (by omega)).trans p0
  replace p1 := (f42 _ (by omega)).trans p1
  replace p2 := (f42 _ (by omega)).trans p2
  replace p3 := (f42 _ (by omega)).trans p3
  replace p4 := (f42 _ (by omega)).trans p4
  replace x0 := e42
  refine h_s rfl ?_
  refine h_newo rfl rfl rfl hl (fun w43 l43 c43 g43 => ?_)
  replace hl := l43
  replace x0 := (g43 _ (by omega)).trans x0
  replace R1 := R1.fr (fun j _ _ => g43 j (by omega))
  replace R2 := R2.fr (fun j _ _ => g43 j (by omega))
  replace R3 := R3.fr (fun j _ _ => g43 j (by omega))
  replace p0 := (g43 _ (by omega)).trans p0
  replace p1 := (g43 _ (by omega)).trans p1
  replace p2 := (g43 _ (by omega)).trans p2
  replace p3 := (g43 _ (by omega)).trans p3
  replace p4 := (g43 _ (by omega)).trans p4
  refine h_s rfl ?_
  refine hq_c rfl (i_tape (r := 39) hl c43) (fun v44 w44 q44 => ?_)
  obtain ⟨rfl, hl, t0, t1, t2, t3, t4, g44⟩ := q44
  replace x0 := (g44 _ (by omega)).trans x0
  replace R1 := R1.fr (fun j _ _ => g44 j (by omega))
  replace R2 := R2.fr (fun j _ _ => g44 j (by omega))
  replace R3 := R3.fr (fun j _ _ => g44 j (by omega))
  replace p0 := (g44 _ (by omega)).trans p0
  replace p1 := (g44 _ (by omega)).trans p1
  replace p2 := (g44 _ (by omega)).trans p2
  replace p3 := (g44 _ (by omega)).trans p3
  replace p4 := (g44 _ (by omega)).trans p4
  refine h_n (st2 := [_, _]) rfl ?_
  refine h_pf rfl rfl x0 rfl (fun w45 e45 f45 => ?_)
  replace hl := len_fr x0 e45 f45 hl
  replace R1 := R1.fr (fun j _ _ => f45 j (by omega))
  replace R2 := R2.fr (fun j _ _ => f45 j (by omega))
  replace R3 := R3.fr (fun j _ _ => f45 j (by omega))
  replace p0 := (f45 _ (by omega)).trans p0
  replace p1 := (f45 _ (by omega)).trans p1
  replace p2 := (f45 _ (by omega)).trans p2
  replace p3 := (f45 _ (by omega)).trans p3
  replace p4 := (f45 _ (by omega)).trans p4
  replace t0 := (f45 _ (by omega)).trans t0
  replace t1 := (f45 _ (by omega)).trans t1
  replace t2 := (f45 _ (by omega)).trans t2
  replace t3 := (f45 _ (by omega)).trans t3
  replace t4 := (f45 _ (by omega)).trans t4
  replace x0 := e45
  refine h_s rfl ?_
  refine h_k (y := 4) rfl rfl ?_
  refine h_newa (m := 4) rfl rfl rfl rfl (by decide) hl (fun w46 l46 h44 g46 => ?_)
  replace hl := l46
  replace x0 := (g46 _ (by omega)).trans x0
  replace R1 := R1.fr (fun j _ _ => g46 j (by omega))
  replace R2 := R2.fr (fun j _ _ => g46 j (by omega))
  replace R3 := R3.fr (fun j _ _ => g46 j (by omega))
  replace p0 := (g46 _ (by omega)).trans p0
  replace p1 := (g46 _ (by omega)).trans p1
  replace p2 := (g46 _ (by omega)).trans p2
  replace p3 := (g46 _ (by omega)).trans p3
  replace p4 := (g46 _ (by omega)).trans p4
  replace t0 := (g46 _ (by omega)).trans t0
  replace t1 := (g46 _ (by omega)).trans t1
  replace t2 := (g46 _ (by omega)).trans t2
  replace t3 := (g46 _ (by omega)).trans t3
  replace t4 := (g46 _ (by omega)).trans t4
  refine h_pf rfl rfl x0 rfl (fun w47 e47 f47 => ?_)
  replace hl := len_fr x0 e47 f47 hl
  replace R1 := R1.fr (fun j _ _ => f47 j (by omega))
  replace R2 := R2.fr (fun j _ _ => f47 j (by omega))
  replace R3 := R3.fr (fun j _ _ => f47 j (by omega))
  replace p0 := (f47 _ (by omega)).trans p0
  replace p1 := (f47 _ (by omega)).trans p1
  replace p2 := (f47 _ (by omega)).trans p2
  replace p3 := (f47 _ (by omega)).trans p3
  replace p4 := (f47 _ (by omega)).trans p4
  replace t0 := (f47 _ (by omega)).trans t0
  replace t1 := (f47 _ (by omega)).trans t1
  replace t2 := (f47 _ (by omega)).trans t2
  replace t3 := (f47 _ (by omega)).trans t3
  replace t4 := (f47 _ (by omega)).trans t4
  replace h44 := (f47 _ (by omega)).trans h44
  replace x0 := e47
  refine h_s rfl ?_
  refine h_k (y := 7) rfl rfl ?_
  refine h_newi (m := 7) rfl rfl (by decide) hl (fun w48 l48 h45 g48 => ?_)
  replace hl := l48
  replace x0 := (g48 _ (by omega)).trans x0
  replace R1 := R1.fr (fun j _ _ => g48 j (by omega))
  replace R2 := R2.fr (fun j _ _ => g48 j (by omega))
  replace R3 := R3.fr (fun j _ _ => g48 j (by omega))
  replace p0 := (g48 _ (by omega)).trans p0
  replace p1 := (g48 _ (by omega)).trans p1
  replace p2 := (g48 _ (by omega)).trans p2
  replace p3 := (g48 _ (by omega)).trans p3
  replace p4 := (g48 _ (by omega)).trans p4
  replace t0 := (g48 _ (by omega)).trans t0
  replace t1 := (g48 _ (by omega)).trans t1
  replace t2 := (g48 _ (by omega)).trans t2
  replace t3 := (g48 _ (by omega)).trans t3
  replace t4 := (g48 _ (by omega)).trans t4
  replace h44 := (g48 _ (by omega)).trans h44
  refine h_pf rfl rfl x0 rfl (fun w49 e49 f49 => ?_)
  replace hl := len_fr x0 e49 f49 hl
  replace R1 := R1.fr (fun j _ _ => f49 j (by omega))
  replace R2 := R2.fr (fun j _ _ => f49 j (by omega))
  replace R3 := R3.fr (fun j _ _ => f49 j (by omega))
  replace p0 := (f49 _ (by omega)).trans p0
  replace p1 := (f49 _ (by omega)).trans p1
  replace p2 := (f49 _ (by omega)).trans p2
  replace p3 := (f49 _ (by omega)).trans p3
  replace p4 := (f49 _ (by omega)).trans p4
  replace t0 := (f49 _ (by omega)).trans t0
  replace t1 := (f49 _ (by omega)).trans t1
  replace t2 := (f49 _ (by omega)).trans t2
  replace t3 := (f49 _ (by omega)).trans t3
  replace t4 := (f49 _ (by omega)).trans t4
  replace h44 := (f49 _ (by omega)).trans h44
  replace h45 := (f49 _ (by omega)).trans h45
  replace x0 := e49
  refine h_k (y := 0) rfl rfl ?_
  refine h_s rfl ?_
  obtain ⟨u, hu⟩ : ∃ u : ab_W, u = w49 := ⟨_, rfl⟩
  refine h_loop0 4 (fun i ls v => ls = [some (.ref 0), some (.int (nI i))] ∧ v.length = 46 + 2 * i ∧ v[0]? = some (.inl (5, xObj false)) ∧ (∃ hs : List Value, v[44]? = some (.inl (8, hs)) ∧ hs.length = 4 ∧ ∀ q, q < i → hs[q]? = some (.ref (46 + 2 * q))) ∧ (∀ q, q < i → v[46 + 2 * q]? = some (.inl (3, [.int 0, .int 0, .ref (46 + 2 * q + 1)])) ∧ v[46 + 2 * q + 1]? = some (.inr (Z0 40))) ∧ ∀ j, j < 46 → j ≠ 44 → v[j]? = u[j]?) ⟨rfl, hl, x0, ⟨_, h44, rfl, fun q hq => absurd hq (by omega)⟩, fun q hq => absurd hq (by omega), fun j _ _ => by rw [hu]⟩ (fun i ls v hi hJ ih => ?_) (fun ls v hJ => ?_)
  · clear x0 h44 hl
    obtain ⟨rfl, hl, x0, ⟨hs, h44, h4, hh⟩, HB, F⟩ := hJ
    iterate 2 refine h_s rfl ?_
    refine h_gf rfl rfl rfl x0 rfl ?_
    refine h_alq (x := nI 4) rfl h44 rfl (by rw [h4]) ?_
    refine hN_ge (b := 4) rfl rfl rfl rfl (by omega) (by omega) (fun h88 => absurd h88 (by omega)) (fun h88 => ?_)
    refine h_s rfl ?_
    refine h_gf rfl rfl rfl x0 rfl ?_
    refine h_s rfl ?_
    refine h_newo rfl rfl rfl hl (fun w1 l1 c1 g1 => ?_)
    replace x0 := (g1 0 (by omega)).trans x0
    replace h44 := (g1 44 (by omega)).trans h44
    refine h_s rfl ?_
    refine hq_c rfl (i_sheet (r := 46 + 2 * i) l1 c1) (fun v2 w2 q2 => ?_)
    obtain ⟨rfl, l2, c2, c3, g2⟩ := q2
    replace x0 := (g2 0 (by omega)).trans x0
    replace h44 := (g2 44 (by omega)).trans h44
    refine h_n (st2 := [_, _, _]) rfl ?_
    refine h_aas (j := i) rfl h44 c2 rfl rfl rfl (by omega) (by omega) (fun w3 e3 f3 => ?_)
    refine h_ii rfl rfl rfl ?_
    refine h_s rfl ?_
    refine ih _ _ ⟨rfl, (len_fr h44 e3 f3 l2).trans (by omega), (f3 _ (by omega)).trans x0, ⟨_, e3, by rw [List.length_set]; exact h4, fun q hq => ?_⟩, fun q hq => ?_, fun j h1 h2 => (f3 _ (by omega)).trans ((g2 _ (by omega)).trans ((g1 _ (by omega)).trans (F j h1 h2)))⟩
    · by_cases e : q = i
      · rw [e, List.getElem?_set_self (by omega)]
      · rw [List.getElem?_set_ne (fun e' => e e'.symm)]
        exact hh q (by omega)
    · by_cases e : q = i
      · rw [e]
        exact ⟨(f3 _ (by omega)).trans c2, (f3 _ (by omega)).trans c3⟩
      · obtain ⟨a1, a2⟩ := HB q (by omega)
        exact ⟨(f3 _ (by omega)).trans ((g2 _ (by omega)).trans ((g1 _ (by omega)).trans a1)), (f3 _ (by omega)).trans ((g2 _ (by omega)).trans ((g1 _ (by omega)).trans a2))⟩
  · clear x0 h44 hl
    obtain ⟨rfl, hl, x0, ⟨hs, h44, h4, hh⟩, HB, F⟩ := hJ
    rw [hu] at F
    iterate 2 refine h_s rfl ?_
    refine h_gf rfl rfl rfl x0 rfl ?_
    refine h_alq (x := nI 4) rfl h44 rfl (by rw [h4]) ?_
    refine hN_ge (b := 4) rfl rfl rfl rfl (by omega) (by omega) (fun h88 => ?_) (fun h88 => absurd (by omega) h88)
    refine h_r rfl ⟨rfl, hl, x0, R1.fr (fun j _ _ => F j (by omega) (by omega)), ⟨_, _, R2.fr (fun j _ _ => F j (by omega) (by omega))⟩, ⟨_, _, R3.fr (fun j _ _ => F j (by omega) (by omega)), fun q => (by cases q)⟩, ?_, ?_, ?_, (F 45 (by decide) (by decide)).trans h45, rfl⟩
    · exact ⟨(F _ (by decide) (by decide)).trans p0, ⟨_, (F _ (by decide) (by decide)).trans p1, rfl⟩, ⟨_, (F _ (by decide) (by decide)).trans p2, rfl⟩, ⟨_, (F _ (by decide) (by decide)).trans p3, rfl⟩, _, (F _ (by decide) (by decide)).trans p4, rfl⟩
    · exact ⟨⟨_, _, (F _ (by decide) (by decide)).trans t0⟩, (F _ (by decide) (by decide)).trans t1, ⟨rfl, by decide⟩, ⟨_, (F _ (by decide) (by decide)).trans t2, rfl⟩, ⟨_, (F _ (by decide) (by decide)).trans t3, rfl⟩, _, (F _ (by decide) (by decide)).trans t4, rfl⟩
    · have e4 : hs = [.ref 46, .ref 48, .ref 50, .ref 52] := by
        apply List.ext_getElem?
        intro i
        by_cases hi : i < 4
        · rw [hh i hi]
          rcases (show i = 0 ∨ i = 1 ∨ i = 2 ∨ i = 3 by omega) with rfl | rfl | rfl | rfl <;> rfl
        · rw [List.getElem?_eq_none_iff.mpr (by omega), List.getElem?_eq_none_iff.mpr (by show 4 ≤ i; omega)]
      rw [e4] at h44
      refine ⟨h44, fun q hq => ?_, fun q hq => ?_, rfl, rfl, rfl⟩
      · have e0 : (Z0 4).getD q 0 = 0 := (show ∀ q, q < 4 → (Z0 4).getD q 0 = 0 by decide) q hq
        rw [e0, show 47 + 2 * q = 46 + 2 * q + 1 by omega]
        exact (HB q hq).1
      · refine ⟨Z0 40, ?_, rfl, fun j hj => ?_⟩
        · rw [show 47 + 2 * q = 46 + 2 * q + 1 by omega]
          exact (HB q hq).2
        · have e0 : ∀ m k, (Z0 m).getD k 0 = 0 := fun m k => by
            unfold Z0
            rw [List.getD_eq_getElem?_getD, List.getElem?_replicate]
            split <;> rfl
          rw [e0, e0]
set_option maxRecDepth 100000 in
set_option maxHeartbeats 4000000 in
theorem i_model (hl : w.length = 55) (x0 : w[54]? = some (.inl (6, ab_dfl 6))) : ab_Q X kX6_init [.ref 54] w (fun v w1 => v = none ∧ w1.length = 65 ∧ MW w1 S00 0 (Z0 7) (Z0 90) false (Z0 120) 0 (Z0 4) (Z0 4) (Z0 160) ∧ ∀ i, i < 54 → w1[i]? = w[i]?) := by
  have F : ∀ i, i < 54 → w[i]? = w[i]? := fun _ _ => rfl
  show ab_H X kX6_init 0 [some (.ref 54), none] [] w _
  iterate 3 refine h_s rfl ?_
  refine h_k (y := 90) rfl rfl ?_
  refine h_newi (m := 90) rfl rfl (by decide) hl (fun w50 l50 h55 g50 => ?_)
  replace hl := l50
  replace F := fun i (hi : i < 54) => (g50 i (by omega)).trans (F i hi)
  replace x0 := (g50 _ (by omega)).trans x0
  refine h_pf rfl rfl x0 rfl (fun w51 e51 f51 => ?_)
  replace hl := len_fr x0 e51 f51 hl
  replace F := fun i (hi : i < 54) => (f51 i (by omega)).trans (F i hi)
  replace h55 := (f51 _ (by omega)).trans h55
  replace x0 := e51
  refine h_s rfl ?_
  refine h_k (y := 90) rfl rfl ?_
  refine h_newi (m := 90) rfl rfl (by decide) hl (fun w52 l52 h56 g52 => ?_)
  replace hl := l52
  replace F := fun i (hi : i < 54) => (g52 i (by omega)).trans (F i hi)
  replace x0 := (g52 _ (by omega)).trans x0
  replace h55 := (g52 _ (by omega)).trans h55
  refine h_pf rfl rfl x0 rfl (fun w53 e53 f53 => ?_)
  replace hl := len_fr x0 e53 f53 hl
  replace F := fun i (hi : i < 54) => (f53 i (by omega)).trans (F i hi)
  replace h55 := (f53 _ (by omega)).trans h55
  replace h56 := (f53 _ (by omega)).trans h56
  replace x0 := e53
  refine h_s rfl ?_
  refine h_k (y := 90) rfl rfl ?_
  refine h_newi (m := 90) rfl rfl (by decide) hl (fun w54 l54 h57 g54 => ?_)
  replace hl := l54
  replace F := fun i (hi : i < 54) => (g54 i (by omega)).trans (F i hi)
  replace x0 := (g54 _ (by omega)).trans x0
  replace h55 := (g54 _ (by omega)).trans h55
  replace h56 := (g54 _ (by omega)).trans h56
  refine h_pf rfl rfl x0 rfl (fun w55 e55 f55 => ?_)
  replace hl := len_fr x0 e55 f55 hl
  replace F := fun i (hi : i < 54) => (f55 i (by omega)).trans (F i hi)
  replace h55 := (f55 _ (by omega)).trans h55
  replace h56 := (f55 _ (by omega)).trans h56
  replace h57 := (f55 _ (by omega)).trans h57
  replace x0 := e55
  refine h_s rfl ?_
  refine h_k (y := 7) rfl rfl ?_
  refine h_newi (m := 7) rfl rfl (by decide) hl (fun w56 l56 h58 g56 => ?_)
  replace hl := l56
  replace F := fun i (hi : i < 54) => (g56 i (by omega)).trans (F i hi)
  replace x0 := (g56 _ (by omega)).trans x0
  replace h55 := (g56 _ (by omega)).trans h55
  replace h56 := (g56 _ (by omega)).trans h56
  replace h57 := (g56 _ (by omega)).trans h57
  refine h_pf rfl rfl x0 rfl (fun w57 e57 f57 => ?_)
  replace hl := len_fr x0 e57 f57 hl
  replace F := fun i (hi : i < 54) => (f57 i (by omega)).trans (F i hi)
  replace h55 := (f57 _ (by omega)).trans h55
  replace h56 := (f57 _ (by omega)).trans h56
  replace h57 := (f57 _ (by omega)).trans h57
  replace h58 := (f57 _ (by omega)).trans h58
  replace x0 := e57
  refine h_s rfl ?_
  refine h_k (y := 16) rfl rfl ?_
  refine h_newi (m := 16) rfl rfl (by decide) hl (fun w58 l58 h59 g58 => ?_)
  replace hl := l58
  replace F := fun i (hi : i < 54) => (g58 i (by omega)).trans (F i hi)
  replace x0 := (g58 _ (by omega)).trans x0
  replace h55 := (g58 _ (by omega)).trans h55
  replace h56 := (g58 _ (by omega)).trans h56
  replace h57 := (g58 _ (by omega)).trans h57
  replace h58 := (g58 _ (by omega)).trans h58
  refine h_pf rfl rfl x0 rfl (fun w59 e59 f59 => ?_)
  replace hl := len_fr x0 e59 f59 hl
  replace F := fun i (hi : i < 54) => (f59 i (by omega)).trans (F i hi)
  replace h55 := (f59 _ (by omega)).trans h55
  replace h56 := (f59 _ (by omega)).trans h56
  replace h57 := (f59 _ (by omega)).trans h57
  replace h58 := (f59 _ (by omega)).trans h58
  replace h59 := (f59 _ (by omega)).trans h59
  replace x0 := e59
  refine h_s rfl ?_
  refine h_k (y := 120) rfl rfl ?_
  refine h_newi (m := 120) rfl rfl (by decide) hl (fun w60 l60 h60 g60 => ?_)
  replace hl := l60
  replace F := fun i (hi : i < 54) => (g60 i (by omega)).trans (F i hi)
  replace x0 := (g60 _ (by omega)).trans x0
  replace h55 := (g60 _ (by omega)).trans h55
  replace h56 := (g60 _ (by omega)).trans h56
  replace h57 := (g60 _ (by omega)).trans h57
  replace h58 := (g60 _ (by omega)).trans h58
  replace h59 := (g60 _ (by omega)).trans h59
  refine h_pf rfl rfl x0 rfl (fun w61 e61 f61 => ?_)
  replace hl := len_fr x0 e61 f61 hl
  replace F := fun i (hi : i < 54) => (f61 i (by omega)).trans (F i hi)
  replace h55 := (f61 _ (by omega)).trans h55
  replace h56 := (f61 _ (by omega)).trans h56
  replace h57 := (f61 _ (by omega)).trans h57
  replace h58 := (f61 _ (by omega)).trans h58
  replace h59 := (f61 _ (by omega)).trans h59
  replace h60 := (f61 _ (by omega)).trans h60
  replace x0 := e61
  refine h_s rfl ?_
  refine h_k (y := 4) rfl rfl ?_
  refine h_newi (m := 4) rfl rfl (by decide) hl (fun w62 l62 h61 g62 => ?_)
  replace hl := l62
  replace F := fun i (hi : i < 54) => (g62 i (by omega)).trans (F i hi)
  replace x0 := (g62 _ (by omega)).trans x0
  replace h55 := (g62 _ (by omega)).trans h55
  replace h56 := (g62 _ (by omega)).trans h56
  replace h57 := (g62 _ (by omega)).trans h57
  replace h58 := (g62 _ (by omega)).trans h58
  replace h59 := (g62 _ (by omega)).trans h59
  replace h60 := (g62 _ (by omega)).trans h60
  refine h_pf rfl rfl x0 rfl (fun w63 e63 f63 => ?_)
  replace hl := len_fr x0 e63 f63 hl
  replace F := fun i (hi : i < 54) => (f63 i (by omega)).trans (F i hi)
  replace h55 := (f63 _ (by omega)).trans h55
  replace h56 := (f63 _ (by omega)).trans h56
  replace h57 := (f63 _ (by omega)).trans h57
  replace h58 := (f63 _ (by omega)).trans h58
  replace h59 := (f63 _ (by omega)).trans h59
  replace h60 := (f63 _ (by omega)).trans h60
  replace h61 := (f63 _ (by omega)).trans h61
  replace x0 := e63
  refine h_s rfl ?_
  refine h_k (y := 4) rfl rfl ?_
  refine h_newi (m := 4) rfl rfl (by decide) hl (fun w64 l64 h62 g64 => ?_)
  replace hl := l64
  replace F := fun i (hi : i < 54) => (g64 i (by omega)).trans (F i hi)
  replace x0 := (g64 _ (by omega)).trans x0
  replace h55 := (g64 _ (by omega)).trans h55
  replace h56 := (g64 _ (by omega)).trans h56
  replace h57 := (g64 _ (by omega)).trans h57
  replace h58 := (g64 _ (by omega)).trans h58
  replace h59 := (g64 _ (by omega)).trans h59
  replace h60 := (g64 _ (by omega)).trans h60
  replace h61 := (g64 _ (by omega)).trans h61
  refine h_pf rfl rfl x0 rfl (fun w65 e65 f65 => ?_)
  replace hl := len_fr x0 e65 f65 hl
  replace F := fun i (hi : i < 54) => (f65 i (by omega)).trans (F i hi)
  replace h55 := (f65 _ (by omega)).trans h55
  replace h56 := (f65 _ (by omega)).trans h56
  replace h57 := (f65 _ (by omega)).trans h57
  replace h58 := (f65 _ (by omega)).trans h58
  replace h59 := (f65 _ (by omega)).trans h59
  replace h60 := (f65 _ (by omega)).trans h60
  replace h61 := (f65 _ (by omega)).trans h61
  replace h62 := (f65 _ (by omega)).trans h62
  replace x0 := e65
  refine h_s rfl ?_
  refine h_k (y := 160) rfl rfl ?_
  refine h_newi (m := 160) rfl rfl (by decide) hl (fun w66 l66 h63 g66 => ?_)
  replace hl := l66
  replace F := fun i (hi : i < 54) => (g66 i (by omega)).trans (F i hi)
  replace x0 := (g66 _ (by omega)).trans x0
  replace h55 := (g66 _ (by omega)).trans h55
  replace h56 := (g66 _ (by omega)).trans h56
  replace h57 := (g66 _ (by omega)).trans h57
  replace h58 := (g66 _ (by omega)).trans h58
  replace h59 := (g66 _ (by omega)).trans h59
  replace h60 := (g66 _ (by omega)).trans h60
  replace h61 := (g66 _ (by omega)).trans h61
  replace h62 := (g66 _ (by omega)).trans h62
  refine h_pf rfl rfl x0 rfl (fun w67 e67 f67 => ?_)
  replace hl := len_fr x0 e67 f67 hl
  replace F := fun i (hi : i < 54) => (f67 i (by omega)).trans (F i hi)
  replace h55 := (f67 _ (by omega)).trans h55
  replace h56 := (f67 _ (by omega)).trans h56
  replace h57 := (f67 _ (by omega)).trans h57
  replace h58 := (f67 _ (by omega)).trans h58
  replace h59 := (f67 _ (by omega)).trans h59
  replace h60 := (f67 _ (by omega)).trans h60
  replace h61 := (f67 _ (by omega)).trans h61
  replace h62 := (f67 _ (by omega)).trans h62
  replace h63 := (f67 _ (by omega)).trans h63
  replace x0 := e67
  refine h_s rfl ?_
  refine h_k (y := 40) rfl rfl ?_
  refine h_newi (m := 40) rfl rfl (by decide) hl (fun w68 l68 h64 g68 => ?_)
  replace hl := l68
  replace F := fun i (hi : i < 54) => (g68 i (by omega)).trans (F i hi)
  replace x0 := (g68 _ (by omega)).trans x0
  replace h55 := (g68 _ (by omega)).trans h55
  replace h56 := (g68 _ (by omega)).trans h56
  replace h57 := (g68 _ (by omega)).trans h57
  replace h58 := (g68 _ (by omega)).trans h58
  replace h59 := (g68 _ (by omega)).trans h59
  replace h60 := (g68 _ (by omega)).trans h60
  replace h61 := (g68 _ (by omega)).trans h61
  replace h62 := (g68 _ (by omega)).trans h62
  replace h63 := (g68 _ (by omega)).trans h63
  refine h_pf rfl rfl x0 rfl (fun w69 e69 f69 => ?_)
  replace hl := len_fr x0 e69 f69 hl
  replace F := fun i (hi : i < 54) => (f69 i (by omega)).trans (F i hi)
  replace h55 := (f69 _ (by omega)).trans h55
  replace h56 := (f69 _ (by omega)).trans h56
  replace h57 := (f69 _ (by omega)).trans h57
  replace h58 := (f69 _ (by omega)).trans h58
  replace h59 := (f69 _ (by omega)).trans h59
  replace h60 := (f69 _ (by omega)).trans h60
  replace h61 := (f69 _ (by omega)).trans h61
  replace h62 := (f69 _ (by omega)).trans h62
  replace h63 := (f69 _ (by omega)).trans h63
  replace h64 := (f69 _ (by omega)).trans h64
  replace x0 := e69
  refine h_s rfl ?_
  refine h_gf rfl rfl rfl x0 rfl ?_
  refine h_k (y := 1) rfl rfl ?_
  refine h_k (y := 1) rfl rfl ?_
  refine h_is 1 rfl h55 (by simp) rfl (by simp) (fun w70 e70 f70 => ?_)
  replace hl := len_fr h55 e70 f70 hl
  replace F := fun i (hi : i < 54) => (f70 i (by omega)).trans (F i hi)
  replace x0 := (f70 _ (by omega)).trans x0
  replace h56 := (f70 _ (by omega)).trans h56
  replace h57 := (f70 _ (by omega)).trans h57
  replace h58 := (f70 _ (by omega)).trans h58
  replace h59 := (f70 _ (by omega)).trans h59
  replace h60 := (f70 _ (by omega)).trans h60
  replace h61 := (f70 _ (by omega)).trans h61
  replace h62 := (f70 _ (by omega)).trans h62
  replace h63 := (f70 _ (by omega)).trans h63
  replace h64 := (f70 _ (by omega)).trans h64
  replace h55 := e70
  refine h_k (y := 0) rfl rfl ?_
  iterate 2 refine h_s rfl ?_
  refine h_k (y := 10) rfl rfl ?_
  iterate 2 refine h_s rfl ?_
  refine h_gf rfl rfl rfl x0 rfl ?_
  refine h_k (y := 80) rfl rfl ?_
  refine h_s rfl ?_
  refine h_s rfl ?_
  refine h_t (y := 80) rfl ?_
  refine h_k (y := (-1)) rfl rfl ?_
  refine h_is 80 rfl h55 (by simp) rfl (by simp) (fun w71 e71 f71 => ?_)
  replace hl := len_fr h55 e71 f71 hl
  replace F := fun i (hi : i < 54) => (f71 i (by omega)).trans (F i hi)
  replace x0 := (f71 _ (by omega)).trans x0
  replace h56 := (f71 _ (by omega)).trans h56
  replace h57 := (f71 _ (by omega)).trans h57
  replace h58 := (f71 _ (by omega)).trans h58
  replace h59 := (f71 _ (by omega)).trans h59
  replace h60 := (f71 _ (by omega)).trans h60
  replace h61 := (f71 _ (by omega)).trans h61
  replace h62 := (f71 _ (by omega)).trans h62
  replace h63 := (f71 _ (by omega)).trans h63
  replace h64 := (f71 _ (by omega)).trans h64
  replace h55 := e71
  refine h_ii (j := 0) rfl rfl rfl ?_
  iterate 2 refine h_s rfl ?_
  refine h_k (y := 10) rfl rfl ?_
  iterate 2 refine h_s rfl ?_
  refine h_gf rfl rfl rfl x0 rfl ?_
  refine h_k (y := 80) rfl rfl ?_
  refine h_s rfl ?_
  refine h_s rfl ?_
  refine h_t (y := 81) rfl ?_
  refine h_k (y := (-1)) rfl rfl ?_
  refine h_is 81 rfl h55 (by simp) rfl (by simp) (fun w72 e72 f72 => ?_)
  replace hl := len_fr h55 e72 f72 hl
  replace F := fun i (hi : i < 54) => (f72 i (by omega)).trans (F i hi)
  replace x0 := (f72 _ (by omega)).trans x0
  replace h56 := (f72 _ (by omega)).trans h56
  replace h57 := (f72 _ (by omega)).trans h57
  replace h58 := (f72 _ (by omega)).trans h58
  replace h59 := (f72 _ (by omega)).trans h59
  replace h60 := (f72 _ (by omega)).trans h60
  replace h61 := (f72 _ (by omega)).trans h61
  replace h62 := (f72 _ (by omega)).trans h62
  replace h63 := (f72 _ (by omega)).trans h63
  replace h64 := (f72 _ (by omega)).trans h64
  replace h55 := e72
  refine h_ii (j := 1) rfl rfl rfl ?_
  iterate 2 refine h_s rfl ?_
  refine h_k (y := 10) rfl rfl ?_
  iterate 2 refine h_s rfl ?_
  refine h_gf rfl rfl rfl x0 rfl ?_
  refine h_k (y := 80) rfl rfl ?_
  refine h_s rfl ?_
  refine h_s rfl ?_
  refine h_t (y := 82) rfl ?_
  refine h_k (y := (-1)) rfl rfl ?_
  refine h_is 82 rfl h55 (by simp) rfl (by simp) (fun w73 e73 f73 => ?_)
  replace hl := len_fr h55 e73 f73 hl
  replace F := fun i (hi : i < 54) => (f73 i (by omega)).trans (F i hi)
  replace x0 := (f73 _ (by omega)).trans x0
  replace h56 := (f73 _ (by omega)).trans h56
  replace h57 := (f73 _ (by omega)).trans h57
  replace h58 := (f73 _ (by omega)).trans h58
  replace h59 := (f73 _ (by omega)).trans h59
  replace h60 := (f73 _ (by omega)).trans h60
  replace h61 := (f73 _ (by omega)).trans h61
  replace h62 := (f73 _ (by omega)).trans h62
  replace h63 := (f73 _ (by omega)).trans h63
  replace h64 := (f73 _ (by omega)).trans h64
  replace h55 := e73
  refine h_ii (j := 2) rfl rfl rfl ?_
  iterate 2 refine h_s rfl ?_
  refine h_k (y := 10) rfl rfl ?_
  iterate 2 refine h_s rfl ?_
  refine h_gf rfl rfl rfl x0 rfl ?_
  refine h_k (y := 80) rfl rfl ?_
  refine h_s rfl ?_
  refine h_s rfl ?_
  refine h_t (y := 83) rfl ?_
  refine h_k (y := (-1)) rfl rfl ?_
  refine h_is 83 rfl h55 (by simp) rfl (by simp) (fun w74 e74 f74 => ?_)
  replace hl := len_fr h55 e74 f74 hl
  replace F := fun i (hi : i < 54) => (f74 i (by omega)).trans (F i hi)
  replace x0 := (f74 _ (by omega)).trans x0
  replace h56 := (f74 _ (by omega)).trans h56
  replace h57 := (f74 _ (by omega)).trans h57
  replace h58 := (f74 _ (by omega)).trans h58
  replace h59 := (f74 _ (by omega)).trans h59
  replace h60 := (f74 _ (by omega)).trans h60
  replace h61 := (f74 _ (by omega)).trans h61
  replace h62 := (f74 _ (by omega)).trans h62
  replace h63 := (f74 _ (by omega)).trans h63
  replace h64 := (f74 _ (by omega)).trans h64
  replace h55 := e74
  refine h_ii (j := 3) rfl rfl rfl ?_
  iterate 2 refine h_s rfl ?_
  refine h_k (y := 10) rfl rfl ?_
  iterate 2 refine h_s rfl ?_
  refine h_gf rfl rfl rfl x0 rfl ?_
  refine h_k (y := 80) rfl rfl ?_
  refine h_s rfl ?_
  refine h_s rfl ?_
  refine h_t (y := 84) rfl ?_
  refine h_k (y := (-1)) rfl rfl ?_
  refine h_is 84 rfl h55 (by simp) rfl (by simp) (fun w75 e75 f75 => ?_)
  replace hl := len_fr h55 e75 f75 hl
  replace F := fun i (hi : i < 54) => (f75 i (by omega)).trans (F i hi)
  replace x0 := (f75 _ (by omega)).trans x0
  replace h56 := (f75 _ (by omega)).trans h56
  replace h57 := (f75 _ (by omega)).trans h57
  replace h58 := (f75 _ (by omega)).trans h58
  replace h59 := (f75 _ (by omega)).trans h59
  replace h60 := (f75 _ (by omega)).trans h60
  replace h61 := (f75 _ (by omega)).trans h61
  replace h62 := (f75 _ (by omega)).trans h62
  replace h63 := (f75 _ (by omega)).trans h63
  replace h64 := (f75 _ (by omega)).trans h64
  replace h55 := e75
  refine h_ii (j := 4) rfl rfl rfl ?_
  iterate 2 refine h_s rfl ?_
  refine h_k (y := 10) rfl rfl ?_
  iterate 2 refine h_s rfl ?_
  refine h_gf rfl rfl rfl x0 rfl ?_
  refine h_k (y := 80) rfl rfl ?_
  refine h_s rfl ?_
  refine h_s rfl ?_
  refine h_t (y := 85) rfl ?_
  refine h_k (y := (-1)) rfl rfl ?_
  refine h_is 85 rfl h55 (by simp) rfl (by simp) (fun w76 e76 f76 => ?_)
  replace hl := len_fr h55 e76 f76 hl
  replace F := fun i (hi : i < 54) => (f76 i (by omega)).trans (F i hi)
  replace x0 := (f76 _ (by omega)).trans x0
  replace h56 := (f76 _ (by omega)).trans h56
  replace h57 := (f76 _ (by omega)).trans h57
  replace h58 := (f76 _ (by omega)).trans h58
  replace h59 := (f76 _ (by omega)).trans h59
  replace h60 := (f76 _ (by omega)).trans h60
  replace h61 := (f76 _ (by omega)).trans h61
  replace h62 := (f76 _ (by omega)).trans h62
  replace h63 := (f76 _ (by omega)).trans h63
  replace h64 := (f76 _ (by omega)).trans h64
  replace h55 := e76
  refine h_ii (j := 5) rfl rfl rfl ?_
  iterate 2 refine h_s rfl ?_
  refine h_k (y := 10) rfl rfl ?_
  iterate 2 refine h_s rfl ?_
  refine h_gf rfl rfl rfl x0 rfl ?_
  refine h_k (y := 80) rfl rfl ?_
  refine h_s rfl ?_
  refine h_s rfl ?_
  refine h_t (y := 86) rfl ?_
  refine h_k (y := (-1)) rfl rfl ?_
  refine h_is 86 rfl h55 (by simp) rfl (by simp) (fun w77 e77 f77 => ?_)
  replace hl := len_fr h55 e77 f77 hl
  replace F := fun i (hi : i < 54) => (f77 i (by omega)).trans (F i hi)
  replace x0 := (f77 _ (by omega)).trans x0
  replace h56 := (f77 _ (by omega)).trans h56
  replace h57 := (f77 _ (by omega)).trans h57
  replace h58 := (f77 _ (by omega)).trans h58
  replace h59 := (f77 _ (by omega)).trans h59
  replace h60 := (f77 _ (by omega)).trans h60
  replace h61 := (f77 _ (by omega)).trans h61
  replace h62 := (f77 _ (by omega)).trans h62
  replace h63 := (f77 _ (by omega)).trans h63
  replace h64 := (f77 _ (by omega)).trans h64
  replace h55 := e77
  refine h_ii (j := 6) rfl rfl rfl ?_
  iterate 2 refine h_s rfl ?_
  refine h_k (y := 10) rfl rfl ?_
  iterate 2 refine h_s rfl ?_
  refine h_gf rfl rfl rfl x0 rfl ?_
  refine h_k (y := 80) rfl rfl ?_
  refine h_s rfl ?_
  refine h_s rfl ?_
  refine h_t (y := 87) rfl ?_
  refine h_k (y := (-1)) rfl rfl ?_
  refine h_is 87 rfl h55 (by simp) rfl (by simp) (fun w78 e78 f78 => ?_)
  replace hl := len_fr h55 e78 f78 hl
  replace F := fun i (hi : i < 54) => (f78 i (by omega)).trans (F i hi)
  replace x0 := (f78 _ (by omega)).trans x0
  replace h56 := (f78 _ (by omega)).trans h56
  replace h57 := (f78 _ (by omega)).trans h57
  replace h58 := (f78 _ (by omega)).trans h58
  replace h59 := (f78 _ (by omega)).trans h59
  replace h60 := (f78 _ (by omega)).trans h60
  replace h61 := (f78 _ (by omega)).trans h61
  replace h62 := (f78 _ (by omega)).trans h62
  replace h63 := (f78 _ (by omega)).trans h63
  replace h64 := (f78 _ (by omega)).trans h64
  replace h55 := e78
  refine h_ii (j := 7) rfl rfl rfl ?_
  iterate 2 refine h_s rfl ?_
  refine h_k (y := 10) rfl rfl ?_
  iterate 2 refine h_s rfl ?_
  refine h_gf rfl rfl rfl x0 rfl ?_
  refine h_k (y := 80) rfl rfl ?_
  refine h_s rfl ?_
  refine h_s rfl ?_
  refine h_t (y := 88) rfl ?_
  refine h_k (y := (-1)) rfl rfl ?_
  refine h_is 88 rfl h55 (by simp) rfl (by simp) (fun w79 e79 f79 => ?_)
  replace hl := len_fr h55 e79 f79 hl
  replace F := fun i (hi : i < 54) => (f79 i (by omega)).trans (F i hi)
  replace x0 := (f79 _ (by omega)).trans x0
  replace h56 := (f79 _ (by omega)).trans h56
  replace h57 := (f79 _ (by omega)).trans h57
  replace h58 := (f79 _ (by omega)).trans h58
  replace h59 := (f79 _ (by omega)).trans h59
  replace h60 := (f79 _ (by omega)).trans h60
  replace h61 := (f79 _ (by omega)).trans h61
  replace h62 := (f79 _ (by omega)).trans h62
  replace h63 := (f79 _ (by omega)).trans h63
  replace h64 := (f79 _ (by omega)).trans h64
  replace h55 := e79
  refine h_ii (j := 8) rfl rfl rfl ?_
  iterate 2 refine h_s rfl ?_
  refine h_k (y := 10) rfl rfl ?_
  iterate 2 refine h_s rfl ?_
  refine h_gf rfl rfl rfl x0 rfl ?_
  refine h_k (y := 80) rfl rfl ?_
  refine h_s rfl ?_
  refine h_s rfl ?_
  refine h_t (y := 89) rfl ?_
  refine h_k (y := (-1)) rfl rfl ?_
  refine h_is 89 rfl h55 (by simp) rfl (by simp) (fun w80 e80 f80 => ?_)
  replace hl := len_fr h55 e80 f80 hl
  replace F := fun i (hi : i < 54) => (f80 i (by omega)).trans (F i hi)
  replace x0 := (f80 _ (by omega)).trans x0
  replace h56 := (f80 _ (by omega)).trans h56
  replace h57 := (f80 _ (by omega)).trans h57
  replace h58 := (f80 _ (by omega)).trans h58
  replace h59 := (f80 _ (by omega)).trans h59
  replace h60 := (f80 _ (by omega)).trans h60
  replace h61 := (f80 _ (by omega)).trans h61
  replace h62 := (f80 _ (by omega)).trans h62
  replace h63 := (f80 _ (by omega)).trans h63
  replace h64 := (f80 _ (by omega)).trans h64
  replace h55 := e80
  refine h_ii (j := 9) rfl rfl rfl ?_
  iterate 2 refine h_s rfl ?_
  refine h_k (y := 10) rfl rfl ?_
  refine h_s rfl ?_
  refine h_r rfl ⟨rfl, hl, ⟨Z0 90, Z0 16, Z0 40, 0, 0, 0, false, x0, h55, h56, h57, h58, h59, h60, h61, h62, h63, h64, ?_, rfl, by decide, by decide⟩, ?_⟩
  · exact ⟨rfl, rfl, rfl, rfl, rfl, rfl, rfl, rfl, rfl, rfl⟩
  · intro i hi
    exact F i hi
end IY
