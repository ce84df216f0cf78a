section TWO
variable {p : Program} {l : Launch} {e : Env} {R : Room} {s : State} {m : MethodId} {args : Array Value} {below : List Frame} {meth : Method} {c : Code} {Q : State → Prop} {mi : ab_I} {X : List Int32} {N : Nat} {E : Nat → Value} {cI cH cS : ClassId} {D : va_G} {w0 : ab_W}
variable {pc pc' : Nat} {ls ls' : List (Option Value)} {st st' : List Value} {w w' : ab_W}
theorem ab_Wz {H : Heap} {locs : List Loc} {cells slots : Nat} {g : JFrame} (k : H.size ≤ s.heap.size + cells → W p l e R s m args below meth c H locs cells slots Q g) : W p l e R s m args below meth c H locs cells slots Q g := fun T hT X => k (by rw [← hT]; exact X.heapSize) T hT X
theorem ab_J_set (B : ab_B p s m args meth c mi X N E cI cH cS D w0) {i : Nat} {x y : ab_E} (hg : w0.length ≤ w.length) (hw : w[i]? = some x) (hs : ab_sl y = ab_sl x) {H : Heap} {locs : List Loc} {lsR : Array Slot} (k : ab_J p l e R s m args below meth c Q mi N E cI cH cS D w0 pc ls st (w.set i y)) (hP : va_P D vwCl ((ab_ws N E cI cH cS w).set i (N + i, ab_e N E cI cH cS y)) H) (hS : va_S (ab_A N) s.heap H locs) (hL : ab_L N E (iL mi) lsR ls) :
    W p l e R s m args below meth c H locs (w.length - w0.length) (ab_z w - ab_z w0) Q (F0 m pc lsR (st.map (ab_v N E))) := by
  obtain ⟨hx, hb, hml, hown, hts, hU, hnm, hcl, hE, hh1⟩ := B
  obtain ⟨-, hsz, hK, -, -, hN, hX2⟩ := hU
  rw [ab_ws_set] at hP
  have hi : i < w.length := (List.getElem?_eq_some_iff.mp hw).1
  refine ab_Wz fun hle => ?_
  have hlow : N + w.length ≤ H.size := by
    have hl : w.length - 1 < (w.set i y).length := by rw [List.length_set]; omega
    have h1 := ab_ws_get (N := N) (E := E) (cI := cI) (cH := cH) (cS := cS) (List.getElem?_eq_getElem hl)
    have h2 := (hP _ _ h1).lt
    have h3 : N + (w.length - 1) < H.size := h2
    omega
  have := k H locs lsR hP (by rw [List.length_set]; omega) hS hL
  rw [List.length_set, ab_z_set hw hs] at this
  exact this
theorem ab_getw (B : ab_B p s m args meth c mi X N E cI cH cS D w0) {ix : Nat} (h : ab_getf (ic mi) pc ix ls st w = some (.inl (pc', ls', st', w'))) (hdg : decode (ib mi) pc = .ok (.getfield ix, 3)) (k : ab_J p l e R s m args below meth c Q mi N E cI cH cS D w0 pc' ls' st' w') : w' = w ∧ ab_J p l e R s m args below meth c Q mi N E cI cH cS D w0 pc ls st w := by
  obtain ⟨hx, hb, hml, hown, hts, hU, hnm, hcl, hE, hh1⟩ := B
  obtain ⟨-, hsz, hK, -, -, hN, hX2⟩ := hU
  unfold ab_getf at h
  split at h
  next r st0 =>
    split at h
    next ci fi nest pl hlk =>
      split at h
      next k0 vs hw =>
        split at h
        next v hc hv =>
          obtain ⟨rfl, rfl, rfl, rfl⟩ := ab_nxe h
          simp only [Bool.and_eq_true] at hc
          have hk0 : k0 = ci := Nat.eq_of_beq_eq_true hc.1
          have hci : ci < 7 := Nat.le_of_ble_eq_true hc.2
          subst hk0
          obtain ⟨hv7, hin, hty, hnn, hdc, -, -⟩ := ab_cls k0 hci
          have h1 := List.all_eq_true.mp (List.all_eq_true.mp ab_c3F (ic mi) (List.mem_range.mpr hcl)) _ (ab_lk_mem _ _ _ hlk)
          simp only [ab_ckF, hc.2, Bool.and_eq_true, decide_eq_true_eq] at h1
          have hfi : fi < ab_N k0 := Nat.le_of_ble_eq_true h1.1
          refine ⟨rfl, fun H locs lsR hP hz hS hL => ?_⟩
          have he := ab_ws_get (N := N) (E := E) (cI := cI) (cH := cH) (cS := cS) hw
          rw [ab_e_o hci] at he
          have hfs : (vs.map (ab_v N E))[fi]? = some (ab_v N E v) := by rw [List.getElem?_map, hv]; rfl
          have hsm : ∀ x, s.fieldFound? (ab_T k0 fi).1 (ab_T k0 fi).2.1 (ab_T k0 fi).2.2.1 = some x → s.fieldFound? (ab_nm k0) (ab_T k0 fi).2.1 (ab_T k0 fi).2.2.1 = some x := fun x hx => by rw [hdc fi hfi] at hx; exact hx
          cases nest with
          | false =>
            exact va_get hx hb hts hin hown hK hP r he hv7 fi hfi (hts _ (ab_gwM h1.2 rfl)) hsm hfs hdg (k H locs lsR hP hz hS hL)
          | true =>
            exact va_getN hx hb hts hin hown hK hP r he hv7 fi hfi (va_Nw.use rfl (hN _ (List.mem_of_getElem? h1.2) rfl)) hsm hfs hdg (k H locs lsR hP hz hS hL)
        next => cases h
      next => cases h
    next => cases h
  next j st0 =>
    obtain ⟨-, -, ⟨adK, adV, k1, k2, k3⟩, -, -⟩ := hX2
    split at h
    next nest pl hlk =>
      split at h
      next hc =>
        obtain ⟨rfl, rfl, rfl, rfl⟩ := ab_nxe h
        simp only [Bool.and_eq_true] at hc
        have hj1 : 10 ≤ j := Nat.le_of_ble_eq_true hc.1
        have hj2 : j < 27 := Nat.le_of_ble_eq_true hc.2
        have h1 := List.all_eq_true.mp (List.all_eq_true.mp ab_c3F (ic mi) (List.mem_range.mpr hcl)) _ (ab_lk_mem _ _ _ hlk)
        have h2 : lw_tbl[pl]? = some (.fieldLink (ab_nm (ic mi)) ix "java/lang/String" "value" "[B") := of_decide_eq_true h1
        refine ⟨rfl, fun H locs lsR hP hz hS hL => ?_⟩
        have e1 := (k2 (j - 10) (by omega)).1
        have e2 := (k2 (j - 10) (by omega)).2
        rw [show 10 + (j - 10) = j by omega] at e1
        rw [show 50 + (j - 10) = j + 40 by omega] at e2
        have := k H locs lsR hP hz hS hL
        have t1 : (Value.retAddr (j + 40) :: st0).map (ab_v N E) = .ref (adV (j - 10)) :: st0.map (ab_v N E) := by rw [← e2]; rfl
        have t2 : (Value.retAddr j :: st0).map (ab_v N E) = .ref (adK (j - 10)) :: st0.map (ab_v N E) := by rw [← e1]; rfl
        rw [t1] at this
        rw [t2]
        exact vk_getf hx hb (k1.1 (j - 10) (by omega)).2.2.1 hS hown (hts _ (ab_gwM h2 rfl)) (fun _ h => h) hdg this
      next => cases h
    next nest pl hlk =>
      split at h
      next hc =>
        obtain ⟨rfl, rfl, rfl, rfl⟩ := ab_nxe h
        simp only [Bool.and_eq_true] at hc
        have hj1 : 10 ≤ j := Nat.le_of_ble_eq_true hc.1
        have hj2 : j < 27 := Nat.le_of_ble_eq_true hc.2
        have h1 := List.all_eq_true.mp (List.all_eq_true.mp ab_c3F (ic mi) (List.mem_range.mpr hcl)) _ (ab_lk_mem _ _ _ hlk)
        have h2 : lw_tbl[pl]? = some (.fieldLink (ab_nm (ic mi)) ix "java/lang/String" "coder" "B") := of_decide_eq_true h1
        refine ⟨rfl, fun H locs lsR hP hz hS hL => ?_⟩
        have e1 := (k2 (j - 10) (by omega)).1
        rw [show 10 + (j - 10) = j by omega] at e1
        have := k H locs lsR hP hz hS hL
        have t2 : (Value.retAddr j :: st0).map (ab_v N E) = .ref (adK (j - 10)) :: st0.map (ab_v N E) := by rw [← e1]; rfl
        rw [t2]
        exact vk_getf hx hb (k1.1 (j - 10) (by omega)).2.1 hS hown (hts _ (ab_gwM h2 rfl)) (fun _ h => h) hdg this
      next => cases h
    next => cases h
  next => cases h
theorem ab_putw (B : ab_B p s m args meth c mi X N E cI cH cS D w0) {ix : Nat} (hg : w0.length ≤ w.length) (h : ab_putf mi pc ix ls st w = some (.inl (pc', ls', st', w'))) (hdg : decode (ib mi) pc = .ok (.putfield ix, 3)) (k : ab_J p l e R s m args below meth c Q mi N E cI cH cS D w0 pc' ls' st' w') : w'.length = w.length ∧ ab_z w' = ab_z w ∧ ab_J p l e R s m args below meth c Q mi N E cI cH cS D w0 pc ls st w := by
  have B' := B
  obtain ⟨hx, hb, hml, hown, hts, hU, hnm, hcl, hE, hh1⟩ := B
  obtain ⟨-, hsz, hK, -, -, hN, hX2⟩ := hU
  unfold ab_putf at h
  split at h
  next v r st0 =>
    split at h
    next ci fi nest pl hlk =>
      split at h
      next k0 vs hw =>
        split at h
        next hc =>
          obtain ⟨rfl, rfl, rfl, rfl⟩ := ab_nxe h
          simp only [Bool.and_eq_true] at hc
          obtain ⟨⟨⟨⟨c1, c2⟩, c3⟩, c4⟩, c5⟩ := hc
          have hk0 : k0 = ci := Nat.eq_of_beq_eq_true c1
          have hci : ci < 7 := Nat.le_of_ble_eq_true c2
          subst hk0
          have hvl : fi < vs.length := Nat.le_of_ble_eq_true c3
          obtain ⟨hv7, hin, hty, hnn, hdc, -, -⟩ := ab_cls k0 hci
          have h1 := List.all_eq_true.mp (List.all_eq_true.mp ab_c3F (ic mi) (List.mem_range.mpr hcl)) _ (ab_lk_mem _ _ _ hlk)
          simp only [ab_ckF, c2, Bool.and_eq_true, decide_eq_true_eq] at h1
          have hfi : fi < ab_N k0 := Nat.le_of_ble_eq_true h1.1
          obtain ⟨hnar, hfit⟩ := ab_fit_ok (N := N) hE c4
          have hsl : ab_sl (.inl (k0, vs.set fi v)) = ab_sl (.inl (k0, vs)) := by simp [ab_sl]
          refine ⟨List.length_set, ab_z_set hw hsl, fun H locs lsR hP hz hS hL => ?_⟩
          have he := ab_ws_get (N := N) (E := E) (cI := cI) (cH := cH) (cS := cS) hw
          rw [ab_e_o hci] at he
          have hsm : ∀ x, s.fieldFound? (ab_T k0 fi).1 (ab_T k0 fi).2.1 (ab_T k0 fi).2.2.1 = some x → s.fieldFound? (ab_nm k0) (ab_T k0 fi).2.1 (ab_T k0 fi).2.2.1 = some x := fun x hx => by rw [hdc fi hfi] at hx; exact hx
          have hD := ab_ws_D (N := N) (E := E) (cI := cI) (cH := cH) (cS := cS) w
          have hvl2 : fi < (vs.map (ab_v N E)).length := by rw [List.length_map]; exact hvl
          have K : ∀ (H1 : Heap) (locs1 : List Loc), va_P D vwCl ((ab_ws N E cI cH cS w).set r (N + r, .inr (k0, (vs.map (ab_v N E)).set fi (ab_v N E v)))) H1 → va_D (ab_A N) ((ab_ws N E cI cH cS w).set r (N + r, .inr (k0, (vs.map (ab_v N E)).set fi (ab_v N E v)))) → va_S (ab_A N) s.heap H1 locs1 → W p l e R s m args below meth c H1 locs1 (w.length - w0.length) (ab_z w - ab_z w0) Q (F0 m (pc + 3) lsR (st0.map (ab_v N E))) := by
            intro H1 locs1 q1 q2 q3
            refine ab_J_set B' hg hw hsl k ?_ q3 hL
            rw [ab_e_o hci, List.map_set]
            exact q1
          cases hf : (ab_T k0 fi).2.2.2 with
          | false =>
            cases nest with
            | false => exact va_put hx hb hts hin (ab_cty k0) hty hnn hown hK hP hD hS r he hv7 fi hfi (hts _ (ab_gwM h1.2 rfl)) hsm hf (hty fi hfi) hnar hfit hvl2 hdg K
            | true => exact va_putN hx hb hts hin (ab_cty k0) hty hnn hown hK hP hD hS r he hv7 fi hfi (va_Nw.use rfl (hN _ (List.mem_of_getElem? h1.2) rfl)) hsm hf (hty fi hfi) hnar hfit hvl2 hdg K
          | true =>
            rw [hf] at c5
            simp only [Bool.not_true, Bool.false_or, Bool.and_eq_true, beq_iff_eq, Bool.not_eq_true'] at c5
            obtain ⟨⟨d1, d2⟩, d3⟩ := c5
            have d4 : ic mi = k0 := Nat.eq_of_beq_eq_true d3
            subst d2
            exact va_putF hx hb hts hin (ab_cty k0) hty hnn hown hK hP hD hS r he hv7 fi hfi (hts _ (ab_gwM h1.2 rfl)) hsm hf (hnm.trans d1) (by rw [d4]; exact hdc fi hfi) (hty fi hfi) hnar hfit hvl2 hdg K
        next => cases h
      next => cases h
    next => cases h
  next => cases h
theorem ab_alenw (B : ab_B p s m args meth c mi X N E cI cH cS D w0) (h : ab_alen X pc ls st w = some (.inl (pc', ls', st', w'))) (hdg : decode (ib mi) pc = .ok (.arraylength, 1)) (k : ab_J p l e R s m args below meth c Q mi N E cI cH cS D w0 pc' ls' st' w') : w' = w ∧ ab_J p l e R s m args below meth c Q mi N E cI cH cS D w0 pc ls st w := by
  obtain ⟨hx, hb, hml, hown, hts, hU, hnm, hcl, hE, hh1⟩ := B
  obtain ⟨-, hsz, hK, -, -, hN, hX2⟩ := hU
  unfold ab_alen at h
  split at h
  next r st0 =>
    split at h
    next xs hw =>
      obtain ⟨rfl, rfl, rfl, rfl⟩ := ab_nxe h
      refine ⟨rfl, fun H locs lsR hP hz hS hL => ?_⟩
      exact va_alen hx hb hK hP r 0 (ab_ws_get hw) rfl rfl hdg (k H locs lsR hP hz hS hL)
    next k0 vs hw =>
      split at h
      next hc =>
        obtain ⟨rfl, rfl, rfl, rfl⟩ := ab_nxe h
        refine ⟨rfl, fun H locs lsR hP hz hS hL => ?_⟩
        have he := ab_ws_get (N := N) (E := E) (cI := cI) (cH := cH) (cS := cS) hw
        simp only [Bool.or_eq_true] at hc
        rcases hc with hc | hc
        · have := Nat.eq_of_beq_eq_true hc
          subst this
          exact va_alen hx hb hK hP r 1 he rfl rfl hdg (k H locs lsR hP hz hS hL)
        · have := Nat.eq_of_beq_eq_true hc
          subst this
          exact va_alen hx hb hK hP r 2 he rfl rfl hdg (k H locs lsR hP hz hS hL)
      next => cases h
    next => cases h
  next j st0 =>
    obtain ⟨⟨b, b1, b2, b3⟩, ⟨t, t1, t2, t3⟩, ⟨adK, adV, k1, k2, k3⟩, -, -⟩ := hX2
    split at h
    next xs hxs =>
      obtain ⟨rfl, rfl, rfl, rfl⟩ := ab_nxe h
      refine ⟨rfl, fun H locs lsR hP hz hS hL => ?_⟩
      have := k H locs lsR hP hz hS hL
      match j, hxs with
      | 0, hxs =>
        cases hxs
        have e1 : (Value.retAddr 0 :: st0).map (ab_v N E) = .ref b :: st0.map (ab_v N E) := by rw [← b1]; rfl
        rw [e1]
        exact va_slen hx hb b2 (by omega) (by unfold ab_A; omega) hS hdg this
      | 1, hxs =>
        cases hxs
        have e1 : (Value.retAddr 1 :: st0).map (ab_v N E) = .ref t :: st0.map (ab_v N E) := by rw [← t1]; rfl
        rw [e1]
        obtain ⟨cell, y1, y2, y3, y4, y5, y6, y7⟩ := t3.kept hS.2.1
        exact W.alen hx hb y1 y2 y5 rfl rfl hdg this
    next hn =>
      split at h
      next xs hc hxs =>
        obtain ⟨rfl, rfl, rfl, rfl⟩ := ab_nxe h
        refine ⟨rfl, fun H locs lsR hP hz hS hL => ?_⟩
        have := k H locs lsR hP hz hS hL
        have hj : 50 ≤ j := Nat.le_of_ble_eq_true hc
        have hj2 : j - 50 < 17 := (List.getElem?_eq_some_iff.mp hxs).1
        have e2 := (k2 (j - 50) hj2).2
        rw [show 50 + (j - 50) = j by omega] at e2
        have e1 : (Value.retAddr j :: st0).map (ab_v N E) = .ref (adV (j - 50)) :: st0.map (ab_v N E) := by rw [← e2]; rfl
        rw [e1]
        obtain ⟨cell, y1, y2, y3, y4, y5, y6, y7⟩ := (k1.1 (j - 50) hj2).2.2.2.kept hS.2.1
        have y8 : ab_lens.getD (j - 50) 0 = xs.length := by
          unfold ab_lens
          rw [List.getD_eq_getElem?_getD, List.getElem?_map, hxs]
          rfl
        rw [y8] at y5
        exact W.alen hx hb y1 y2 y5 rfl rfl hdg this
      next => cases h
  next => cases h
theorem ab_ialdw (B : ab_B p s m args meth c mi X N E cI cH cS D w0) (h : ab_iald X pc ls st w = some (.inl (pc', ls', st', w'))) (hdg : decode (ib mi) pc = .ok (.iaload, 1)) (k : ab_J p l e R s m args below meth c Q mi N E cI cH cS D w0 pc' ls' st' w') : w' = w ∧ ab_J p l e R s m args below meth c Q mi N E cI cH cS D w0 pc ls st w := by
  obtain ⟨hx, hb, hml, hown, hts, hU, hnm, hcl, hE, hh1⟩ := B
  obtain ⟨-, hsz, hK, -, -, hN, hX2⟩ := hU
  unfold ab_iald at h
  split at h
  next i r st0 =>
    split at h
    next xs hw =>
      split at h
      next hc =>
        obtain ⟨rfl, rfl, rfl, rfl⟩ := ab_nxe h
        refine ⟨rfl, fun H locs lsR hP hz hS hL => ?_⟩
        exact va_iald hx hb hK hP r 0 (ab_ws_get hw) rfl (ab_in_iff hc) hdg (k H locs lsR hP hz hS hL)
      next => cases h
    next => cases h
  next i j st0 =>
    obtain ⟨⟨b, b1, b2, b3⟩, ⟨t, t1, t2, t3⟩, ⟨adK, adV, k1, k2, k3⟩, -, -⟩ := hX2
    split at h
    next xs hxs =>
      split at h
      next hc =>
        obtain ⟨rfl, rfl, rfl, rfl⟩ := ab_nxe h
        refine ⟨rfl, fun H locs lsR hP hz hS hL => ?_⟩
        have := k H locs lsR hP hz hS hL
        have hin := ab_in_iff hc
        match j, hxs with
        | 0, hxs =>
          cases hxs
          have e1 : (Value.int i :: Value.retAddr 0 :: st0).map (ab_v N E) = .int i :: .ref b :: st0.map (ab_v N E) := by rw [← b1]; rfl
          rw [e1]
          exact va_sld hx hb b2 (by omega) (by unfold ab_A; omega) hS hin hdg this
        | 1, hxs =>
          cases hxs
          have e1 : (Value.int i :: Value.retAddr 1 :: st0).map (ab_v N E) = .int i :: .ref t :: st0.map (ab_v N E) := by rw [← t1]; rfl
          rw [e1]
          obtain ⟨cell, y1, y2, y3, y4, y5, y6, y7⟩ := t3.kept hS.2.1
          have hlt : i.toNatClampNeg < 7 := Nat.not_le.mp fun q => hin (Or.inr q)
          exact W.iald (v := .int (ab_above.getD i.toNatClampNeg 0)) hx hb y1 y2 y3 (fun q => hin (q.imp id (fun z => Nat.le_trans y4 z))) (y6 _ hlt) rfl rfl hdg this
      next => cases h
    next => cases h
  next => cases h
theorem ab_baldw (B : ab_B p s m args meth c mi X N E cI cH cS D w0) (h : ab_bald pc ls st w = some (.inl (pc', ls', st', w'))) (hdg : decode (ib mi) pc = .ok (.baload, 1)) (k : ab_J p l e R s m args below meth c Q mi N E cI cH cS D w0 pc' ls' st' w') : w' = w ∧ ab_J p l e R s m args below meth c Q mi N E cI cH cS D w0 pc ls st w := by
  obtain ⟨hx, hb, hml, hown, hts, hU, hnm, hcl, hE, hh1⟩ := B
  obtain ⟨-, hsz, hK, -, -, hN, hX2⟩ := hU
  unfold ab_bald at h
  split at h
  next i j st0 =>
    obtain ⟨⟨b, b1, b2, b3⟩, ⟨t, t1, t2, t3⟩, ⟨adK, adV, k1, k2, k3⟩, -, -⟩ := hX2
    split at h
    next xs hc2 hxs =>
      split at h
      next hc =>
        obtain ⟨rfl, rfl, rfl, rfl⟩ := ab_nxe h
        refine ⟨rfl, fun H locs lsR hP hz hS hL => ?_⟩
        have := k H locs lsR hP hz hS hL
        have hin := ab_in_iff hc
        have hj : 50 ≤ j := Nat.le_of_ble_eq_true hc2
        have hj2 : j - 50 < 17 := (List.getElem?_eq_some_iff.mp hxs).1
        have e2 := (k2 (j - 50) hj2).2
        rw [show 50 + (j - 50) = j by omega] at e2
        have e1 : (Value.int i :: Value.retAddr j :: st0).map (ab_v N E) = .int i :: .ref (adV (j - 50)) :: st0.map (ab_v N E) := by rw [← e2]; rfl
        rw [e1]
        obtain ⟨cell, y1, y2, y3, y4, y5, y6, y7⟩ := (k1.1 (j - 50) hj2).2.2.2.kept hS.2.1
        have y8 : ab_lens.getD (j - 50) 0 = xs.length := by
          unfold ab_lens
          rw [List.getD_eq_getElem?_getD, List.getElem?_map, hxs]
          rfl
        have y9 : ab_str.getD (j - 50) [] = xs := by
          rw [List.getD_eq_getElem?_getD, hxs]
          rfl
        rw [y8] at y4 y6
        have hlt : i.toNatClampNeg < xs.length := Nat.not_le.mp fun q => hin (Or.inr q)
        have y10 := y6 _ hlt
        rw [y9] at y10
        exact W.bald hx hb y1 y2 y3 (fun q => hin (q.imp id (fun z => Nat.le_trans y4 z))) y10 rfl rfl hdg this
      next => cases h
    next => cases h
  next => cases h
theorem ab_iastw (B : ab_B p s m args meth c mi X N E cI cH cS D w0) (hg : w0.length ≤ w.length) (h : ab_iast pc ls st w = some (.inl (pc', ls', st', w'))) (hdg : decode (ib mi) pc = .ok (.iastore, 1)) (k : ab_J p l e R s m args below meth c Q mi N E cI cH cS D w0 pc' ls' st' w') : w'.length = w.length ∧ ab_z w' = ab_z w ∧ ab_J p l e R s m args below meth c Q mi N E cI cH cS D w0 pc ls st w := by
  have B' := B
  obtain ⟨hx, hb, hml, hown, hts, hU, hnm, hcl, hE, hh1⟩ := B
  obtain ⟨-, hsz, hK, -, -, hN, hX2⟩ := hU
  unfold ab_iast at h
  split at h
  next x i r st0 =>
    split at h
    next xs hw =>
      split at h
      next hc =>
        obtain ⟨rfl, rfl, rfl, rfl⟩ := ab_nxe h
        have hin := ab_in_iff hc
        have hlt : i.toNatClampNeg < xs.length := Nat.not_le.mp fun q => hin (Or.inr q)
        have hsl : ab_sl (.inr (xs.set i.toNatClampNeg x)) = ab_sl (.inr xs) := by simp [ab_sl]
        refine ⟨List.length_set, ab_z_set hw hsl, fun H locs lsR hP hz hS hL => ?_⟩
        have hD := ab_ws_D (N := N) (E := E) (cI := cI) (cH := cH) (cS := cS) w
        refine va_iast hx hb hK hP hD hS r 0 (ab_ws_get hw) rfl hin hdg fun H1 locs1 q1 q2 q3 => ?_
        refine ab_J_set B' hg hw hsl k ?_ q3 hL
        rw [ab_e_i, List.length_set, ← ab_up_i hlt]
        exact q1
      next => cases h
    next => cases h
  next => cases h
theorem ab_aaldw (B : ab_B p s m args meth c mi X N E cI cH cS D w0) (h : ab_aald pc ls st w = some (.inl (pc', ls', st', w'))) (hdg : decode (ib mi) pc = .ok (.aaload, 1)) (k : ab_J p l e R s m args below meth c Q mi N E cI cH cS D w0 pc' ls' st' w') : w' = w ∧ ab_J p l e R s m args below meth c Q mi N E cI cH cS D w0 pc ls st w := by
  obtain ⟨hx, hb, hml, hown, hts, hU, hnm, hcl, hE, hh1⟩ := B
  obtain ⟨-, hsz, hK, -, -, hN, hX2⟩ := hU
  unfold ab_aald at h
  split at h
  next i r st0 =>
    split at h
    next k0 vs hw =>
      split at h
      next hc =>
        split at h
        next q hq =>
          obtain ⟨rfl, rfl, rfl, rfl⟩ := ab_nxe h
          refine ⟨rfl, fun H locs lsR hP hz hS hL => ?_⟩
          simp only [Bool.and_eq_true, Bool.or_eq_true] at hc
          have hin := ab_in_iff hc.2
          have he := ab_ws_get (N := N) (E := E) (cI := cI) (cH := cH) (cS := cS) hw
          have hv : va_rf (ab_q N vs i.toNatClampNeg) = .ref (N + q) := by
            unfold ab_q
            rw [hq]
            rfl
          have := k H locs lsR hP hz hS hL
          have e1 : (Value.ref q :: st0).map (ab_v N E) = va_rf (ab_q N vs i.toNatClampNeg) :: st0.map (ab_v N E) := by rw [hv]; rfl
          rw [e1] at this
          rcases hc.1 with hc1 | hc1
          · have := Nat.eq_of_beq_eq_true hc1
            subst this
            exact va_aldq hx hb hK hP r 1 he rfl hin hdg ‹_›
          · have := Nat.eq_of_beq_eq_true hc1
            subst this
            exact va_aldq hx hb hK hP r 2 he rfl hin hdg ‹_›
        next => cases h
      next => cases h
    next => cases h
  next => cases h
theorem ab_aastw (B : ab_B p s m args meth c mi X N E cI cH cS D w0) (hg : w0.length ≤ w.length) (h : ab_aast pc ls st w = some (.inl (pc', ls', st', w'))) (hdg : decode (ib mi) pc = .ok (.aastore, 1)) (k : ab_J p l e R s m args below meth c Q mi N E cI cH cS D w0 pc' ls' st' w') : w'.length = w.length ∧ ab_z w' = ab_z w ∧ ab_J p l e R s m args below meth c Q mi N E cI cH cS D w0 pc ls st w := by
  have B' := B
  obtain ⟨hx, hb, hml, hown, hts, hU, hnm, hcl, hE, hh1⟩ := B
  obtain ⟨-, hsz, hK, -, -, hN, hX2⟩ := hU
  unfold ab_aast at h
  split at h
  next v i r st0 =>
    split at h
    next k0 vs ci vv hw hv =>
      split at h
      next hc =>
        obtain ⟨rfl, rfl, rfl, rfl⟩ := ab_nxe h
        simp only [Bool.and_eq_true, Bool.or_eq_true] at hc
        obtain ⟨⟨hc1, hc2⟩, hc3⟩ := hc
        have hin := ab_in_iff hc2
        have hlt : i.toNatClampNeg < vs.length := Nat.not_le.mp fun q => hin (Or.inr q)
        have hsl : ab_sl (.inl (k0, vs.set i.toNatClampNeg (.ref v))) = ab_sl (.inl (k0, vs)) := by simp [ab_sl]
        have hci := Nat.eq_of_beq_eq_true hc3
        refine ⟨List.length_set, ab_z_set hw hsl, fun H locs lsR hP hz hS hL => ?_⟩
        have hD := ab_ws_D (N := N) (E := E) (cI := cI) (cH := cH) (cS := cS) w
        have he := ab_ws_get (N := N) (E := E) (cI := cI) (cH := cH) (cS := cS) hw
        have hev := ab_ws_get (N := N) (E := E) (cI := cI) (cH := cH) (cS := cS) hv
        rcases hc1 with hc1 | hc1
        · have := Nat.eq_of_beq_eq_true hc1
          subst this
          have hci0 : ci = 0 := hci
          subst hci0
          refine va_astq hx hb hK hP hD hS r 1 v 0 (r := (RX0, TX0, 9)) he rfl hev rfl hin hdg fun H1 locs1 q1 q2 q3 => ?_
          refine ab_J_set B' hg hw hsl k ?_ q3 hL
          rw [ab_up_q hlt] at q1
          have e3 : ab_e N E cI cH cS (.inl (7, vs.set i.toNatClampNeg (.ref v))) = .inl (cH, vs.length, .inr (.inr (.inr (.inr (ab_q N (vs.set i.toNatClampNeg (.ref v))))))) := by
            unfold ab_e
            dsimp only
            rw [if_pos rfl, List.length_set]
          rw [e3]
          exact q1
        · have := Nat.eq_of_beq_eq_true hc1
          subst this
          have hci0 : ci = 3 := hci
          subst hci0
          refine va_astq hx hb hK hP hD hS r 2 v 3 (r := (RX3, TX3, 3)) he rfl hev rfl hin hdg fun H1 locs1 q1 q2 q3 => ?_
          refine ab_J_set B' hg hw hsl k ?_ q3 hL
          rw [ab_up_q hlt] at q1
          have e3 : ab_e N E cI cH cS (.inl (8, vs.set i.toNatClampNeg (.ref v))) = .inl (cS, vs.length, .inr (.inr (.inr (.inr (ab_q N (vs.set i.toNatClampNeg (.ref v))))))) := by
            unfold ab_e
            dsimp only
            rw [if_neg (by decide), if_pos rfl, List.length_set]
          rw [e3]
          exact q1
      next => cases h
    next => cases h
  next => cases h
end TWO
