def ab_wl (i : ab_I) : List Jvm.Cond := .code (iy i) (ib i) (iL i) (ir i) :: ab_gw
def ab_rm (i : ab_I) (w w' : ab_W) : Room := { frames := ih_ i, cells := w'.length - w.length, slots := ab_z w' - ab_z w, locals := 32 * ih_ i }
def ab_Qc (N : Nat) (E : Nat → Value) (cI cH cS : ClassId) (D : va_G) (v : Option Value) (w' : ab_W) : Array Value → State → Outcome → State → Prop := fun _ st o t => o = .returned (v.map (ab_v N E)) ∧ va_P D vwCl (ab_ws N E cI cH cS w') t.heap ∧ t.heap.size = N + w'.length ∧ va_F (ab_A N) st t
def ab_MM (l : Launch) (X : List Int32) (N : Nat) (E : Nat → Value) (cI cH cS : ClassId) (D : va_G) (i : ab_I) (as : List Value) (w : ab_W) (v : Option Value) (w' : ab_W) : Prop :=
  Met l (iy i) (ab_wl i) (ab_rm i w w') (va_Pc (as.map (ab_v N E)) (ab_U X N E cI cH cS D w)) (ab_Qc N E cI cH cS D v w') (w'.length - w.length) (ab_z w' - ab_z w) (ab_A N)
section FOUR
variable {p : Program} {l : Launch} {e : Env} {R : Room} {s : State} {m : MethodId} {args : Array Value} {below : List Frame} {meth : Method} {c : Code} {Q : State → Prop} {mi : ab_I} {X : List Int32} {N : Nat} {E : Nat → Value} {cI cH cS : ClassId} {D : va_G} {w0 : ab_W}
variable {pc pc' : Nat} {ls ls' : List (Option Value)} {st st' : List Value} {w w' w1 : ab_W} {v : Option Value}
theorem ab_blind (as : List Value) : FrameBlind (va_Pc (as.map (ab_v N E)) (ab_U X N E cI cH cS D w)) := fun a U g mk h => ⟨h.1, ab_U_blind (s := U) (U := U.calling g mk a) rfl rfl h.2⟩
theorem ab_U_at (hsz : N ≤ s.heap.size) (h : ab_U X N E cI cH cS D w0 s) {U : State} {H : Heap} {locs : List Loc} (hU : U.heap = H) (hW : s.WarmedH U.vm) (hP : va_P D vwCl (ab_ws N E cI cH cS w) H) (hz : H.size = N + w.length) (hS : va_S (ab_A N) s.heap H locs) : ab_U X N E cI cH cS D w U := by
  obtain ⟨h1, h2, h3, h4, h5, h6, h7⟩ := h
  have hal := hW.alike
  refine ⟨by rw [hU]; exact hP, by rw [hU]; exact hz, va_K.moved hal h3, h4.moved hal, h5.moved hal, fun x hx hn => ab_Nw_warm hn hW (h6 x hx hn), ?_⟩
  rw [hU]
  exact ab_X2_at hW hsz hS.2.1 h7
theorem ab_after {stR rest : List Value} {lsR : Array Slot} {H : Heap} {locs : List Loc} {cells slots mc ms : Nat} {a : Array Value} (hr : va_Run p l e R s m args below meth c H locs cells slots mc ms (F0 m pc lsR stR) rest (ab_Qc N E cI cH cS D v w1 a) (ab_A N)) (hS : va_S (ab_A N) s.heap H locs)
    (kk : ∀ (H1 : Heap) (locs1 : List Loc), va_P D vwCl (ab_ws N E cI cH cS w1) H1 → H1.size = N + w1.length → va_S (ab_A N) s.heap H1 locs1 → W p l e R s m args below meth c H1 locs1 (cells + mc) (slots + ms) Q (F0 m (pc + 3) lsR ((v.map (ab_v N E)).toList ++ rest))) : W p l e R s m args below meth c H locs cells slots Q (F0 m pc lsR stR) := by
  intro T hT X
  obtain ⟨v', st₀, t, T', L, h0, X', hL, e1, e2, ⟨hv, hP, hz, hF⟩, st⟩ := hr T hT X
  cases hv
  obtain ⟨hz1, hk⟩ := hF
  rw [h0] at hz1 hk
  obtain ⟨t2, a1, b1⟩ := kk T'.heap (locs ++ L) (by rw [e1]; exact hP) (by rw [e1]; exact hz) ⟨Nat.le_trans hS.1 (by rw [e1]; exact hz1), fun q h1 h2 => by rw [e1, hk q (Nat.lt_of_lt_of_le h1 hS.1) h2]; exact hS.2.1 q h1 h2, fun q hq => by
      rcases List.mem_append.mp hq with h | h
      · exact hS.2.2 q h
      · exact hL q h⟩ T' rfl X'
  exact ⟨t2, st t2 a1, b1⟩
theorem ab_gwG (i : ab_I) (h : lw_tbl[(ip_ i).1]? = some (.code (iy i) (ib i) (iL i) (ir i))) : GoodIn ab_gw (ab_wl i) := by
  intro x hx
  have hx2 : x ∈ ab_gw := by
    rcases List.mem_cons.mp hx with rfl | hx
    · exact ab_gwM h rfl
    · exact hx
  exact ⟨hx2, good_of_word (List.mem_filter.mp hx2).2⟩
theorem ab_rev {n : Nat} {x : Value} {as : List Value} (h : (st.take n).reverse = x :: as) : st = as.reverse ++ x :: st.drop n := by
  have h1 : st.take n = (x :: as).reverse := by rw [← h, List.reverse_reverse]
  have h2 := List.take_append_drop n st
  rw [h1, List.reverse_cons, List.append_assoc] at h2
  exact h2.symm
theorem ab_callw (B : ab_B p s m args meth c mi X N E cI cH cS D w0) (hc2 : ∀ k, k < 246 → ab_ck2 (ab_mi k) = true) (hR : ih_ mi ≤ R.frames ∧ 32 * ih_ mi ≤ R.locals) {op ix : Nat} {k' : Nat} {as : List Value} (h : ab_inv mi op pc ix ls st w = some (.inr (.inr (k', as, (pc', ls', st', w')))))
    (hd0 : op = 0 → decode (ib mi) pc = .ok (.invokestatic ix, 3)) (hd1 : op = 1 → decode (ib mi) pc = .ok (.invokevirtual ix, 3)) (hd2 : ¬ op = 0 → ¬ op = 1 → decode (ib mi) pc = .ok (.invokespecial ix, 3)) (hw1 : w.length ≤ w1.length ∧ ab_z w ≤ ab_z w1) (hg : w0.length ≤ w.length ∧ ab_z w0 ≤ ab_z w) (hRb : w1.length - w0.length ≤ R.cells ∧ ab_z w1 - ab_z w0 ≤ R.slots)
    (hM : ab_MM l X N E cI cH cS D (ab_mi k') as w v w1) (k : ab_J p l e R s m args below meth c Q mi N E cI cH cS D w0 pc' ls' (v.toList ++ st') w1) : w' = w ∧ ab_J p l e R s m args below meth c Q mi N E cI cH cS D w0 pc ls st w := by
  obtain ⟨hx, hb, hml, hown, hts, hU, hnm, hcl, hE, hh1⟩ := B
  have hU0 := hU
  obtain ⟨-, hsz, hK, -, -, hN, hX2⟩ := hU
  unfold ab_inv at h
  split at h
  next k1 nest pl hl =>
    have hm1 := List.all_eq_true.mp (List.all_eq_true.mp ab_c3M (ic mi) (List.mem_range.mpr hcl)) _ (ab_lk_mem _ _ _ hl)
    simp only [ab_ckM, Bool.and_eq_true, decide_eq_true_eq] at hm1
    have hk1 : k1 < 246 := Nat.le_of_ble_eq_true hm1.1
    have hck := hc2 k1 hk1
    simp only [ab_ck2, Bool.and_eq_true, decide_eq_true_eq, Bool.or_eq_true, beq_iff_eq, Bool.not_eq_true', beq_eq_false_iff_ne] at hck
    obtain ⟨⟨⟨⟨⟨⟨⟨⟨⟨⟨⟨q1, q2⟩, q3⟩, q4⟩, q5⟩, q6⟩, q7⟩, q8⟩, q9⟩, q10⟩, q11⟩, q12⟩ := hck
    split at h
    next hc =>
      simp only [Bool.and_eq_true, decide_eq_true_eq] at hc
      obtain ⟨⟨⟨⟨c1, c2⟩, c3⟩, c4⟩, c5⟩ := hc
      have c1 := Nat.le_of_ble_eq_true c1
      have c2 : ih_ (ab_mi k1) + 1 ≤ ih_ mi := Nat.le_of_ble_eq_true c2
      have c3 := Nat.le_of_ble_eq_true c3
      have hG := ab_gwG (ab_mi k1) q1
      have hini : (Cond.initialized (iy (ab_mi k1)).cls).before args s = true := hts _ (ab_gwM q3 rfl)
      have hfit : ih_ (ab_mi k1) + 1 ≤ R.frames ∧ 8 + (iL (ab_mi k1) + 11) + 32 * ih_ (ab_mi k1) ≤ R.locals := ⟨by omega, by omega⟩
      have hrest : (((st.drop (in_ (ab_mi k1))).map (ab_v N E)).map fun v => v.category).sum ≤ 8 := by rw [ab_cat_sum hE]; exact c4
      have hcs : (w.length - w0.length) + (w1.length - w.length) = w1.length - w0.length := by omega
      have hss : (ab_z w - ab_z w0) + (ab_z w1 - ab_z w) = ab_z w1 - ab_z w0 := by omega
      have hfin : ∀ {lsR : Array Slot} {H1 : Heap} {locs1 : List Loc}, W p l e R s m args below meth c H1 locs1 (w1.length - w0.length) (ab_z w1 - ab_z w0) Q (F0 m (pc + 3) lsR ((v.toList ++ st.drop (in_ (ab_mi k1))).map (ab_v N E))) → W p l e R s m args below meth c H1 locs1 ((w.length - w0.length) + (w1.length - w.length)) ((ab_z w - ab_z w0) + (ab_z w1 - ab_z w)) Q (F0 m (pc + 3) lsR ((v.map (ab_v N E)).toList ++ (st.drop (in_ (ab_mi k1))).map (ab_v N E))) := by
        intro lsR H1 locs1 h
        rw [hcs, hss]
        rw [List.map_append] at h
        have e : v.toList.map (ab_v N E) = (v.map (ab_v N E)).toList := by cases v <;> rfl
        rw [e] at h
        exact h
      have hUat : ∀ {H : Heap} {locs : List Loc}, va_P D vwCl (ab_ws N E cI cH cS w) H → H.size = N + w.length → va_S (ab_A N) s.heap H locs → ∀ U : State, U.heap = H → s.WarmedH U.vm → ab_U X N E cI cH cS D w U := fun hP hz hS U hU hW => ab_U_at (by omega) hU0 hU hW hP hz hS
      have hcap : (w.length - w0.length) + (w1.length - w.length) ≤ R.cells ∧ (ab_z w - ab_z w0) + (ab_z w1 - ab_z w) ≤ R.slots := ⟨by omega, by omega⟩
      split at h
      · -- static
        have hdg := hd0 rfl
        split at h
        next hst =>
          cases h
          rw [hst] at q2 q7
          have hn : (parseMethodDescriptor (iy (ab_mi k')).desc).map (fun d => d.parameters.length) = some (in_ (ab_mi k')) := q7
          have hlen : ((st.take (in_ (ab_mi k'))).reverse.map (ab_v N E)).length = in_ (ab_mi k') := by simp; omega
          have hstk : st.map (ab_v N E) = ((st.take (in_ (ab_mi k'))).reverse.map (ab_v N E)).reverse ++ (st.drop (in_ (ab_mi k'))).map (ab_v N E) := by
            rw [← List.map_reverse, List.reverse_reverse, ← List.map_append, List.take_append_drop]
          refine ⟨rfl, fun H locs lsR hP hz hS hL => ?_⟩
          cases nest with
          | false =>
            exact ab_after (va_runS ⟨hx, hb, hml, hown, hts⟩ hM ⟨callB_of _ hts hG rfl rfl rfl hini (hts _ (ab_gwM hm1.2 rfl)) ⟨q6.1, q6.2, hn⟩ hfit, hts _ (ab_gwM q2 rfl)⟩ ⟨ab_blind _, fun U hU hW => ⟨rfl, hUat hP hz hS U hU hW⟩⟩ rfl hlen hL.2.1 hstk (lv_room hrest) hdg hcap) hS fun H1 locs1 z1 z2 z3 => hfin (k H1 locs1 lsR z1 z2 z3 hL)
          | true =>
            exact ab_after (va_runSN ⟨hx, hb, hml, hown, hts⟩ hM ⟨va_cnB _ hts hG rfl rfl rfl (hN _ (List.mem_of_getElem? hm1.2) rfl) hini ⟨q6.1, q6.2, hn⟩ hfit, hts _ (ab_gwM q2 rfl), trivial⟩ ⟨ab_blind _, fun U hU hW => ⟨rfl, hUat hP hz hS U hU hW⟩⟩ rfl hlen hL.2.1 hstk (lv_room hrest) hdg hcap) hS fun H1 locs1 z1 z2 z3 => hfin (k H1 locs1 lsR z1 z2 z3 hL)
        next => cases h
      · -- virtual
        have hdg := hd1 rfl
        split at h
        next r as0 has =>
          split at h
          next ci vv hw =>
            split at h
            next hcc =>
              cases h
              simp only [Bool.and_eq_true, Bool.not_eq_true', beq_eq_false_iff_ne] at hcc
              obtain ⟨⟨⟨d1, d2⟩, d3⟩, d4⟩ := hcc
              have d1 := Nat.eq_of_beq_eq_true d1
              have d2 : ci < 7 := Nat.le_of_ble_eq_true d2
              rw [d3] at q2 q7 q4
              have q4 := q4.resolve_left (fun z => by rcases z with z | z; · cases z
                                                      · exact d4 z)
              have hst := ab_rev has
              have hlen0 : as0.length + 1 = in_ (ab_mi k') := by
                have h1 := congrArg List.length has
                simp at h1
                omega
              have hn : (parseMethodDescriptor (iy (ab_mi k')).desc).map (fun d => d.parameters.length) = some as0.length := by
                cases hp : parseMethodDescriptor (iy (ab_mi k')).desc with
                | none => rw [hp] at q7; cases q7
                | some d =>
                  rw [hp] at q7
                  have : d.parameters.length + 1 = in_ (ab_mi k') := Option.some.inj q7
                  show some d.parameters.length = some as0.length
                  congr 1
                  omega
              have hstk : st.map (ab_v N E) = (as0.map (ab_v N E)).reverse ++ .ref (N + r) :: (st.drop (in_ (ab_mi k'))).map (ab_v N E) := by
                conv => lhs; rw [hst]
                rw [List.map_append, List.map_reverse, List.map_cons]
                rfl
              refine ⟨rfl, fun H locs lsR hP hz hS hL => ?_⟩
              have hrec : ∃ cell : Cell, H[N + r]? = some cell ∧ cell.vm.isStatics = false ∧ s.vm.findClass (iy (ab_mi k')).cls = some cell.cls := by
                have he := ab_ws_get (N := N) (E := E) (cI := cI) (cH := cH) (cS := cS) hw
                rw [ab_e_o d2] at he
                have := va_recv hK hP (ab_cls ci d2).1 he
                rw [q5, ← d1]
                exact this
              cases nest with
              | false =>
                exact ab_after (va_runV (C := (iy (ab_mi k')).cls) ⟨hx, hb, hml, hown, hts⟩ hM ⟨callB_of _ hts hG rfl rfl rfl hini (hts _ (ab_gwM hm1.2 rfl)) ⟨q6.1, q6.2, hn⟩ hfit, hts _ (ab_gwM q2 rfl), hts _ (ab_gwM q4 rfl)⟩ ⟨ab_blind _, hrec, fun U hU hW => ⟨rfl, hUat hP hz hS U hU hW⟩⟩ rfl (List.length_map ..) hL.2.1 hstk (lv_room hrest) hdg hcap) hS fun H1 locs1 z1 z2 z3 => hfin (k H1 locs1 lsR z1 z2 z3 hL)
              | true =>
                exact ab_after (va_runVN (C := (iy (ab_mi k')).cls) ⟨hx, hb, hml, hown, hts⟩ hM ⟨va_cnB _ hts hG rfl rfl rfl (hN _ (List.mem_of_getElem? hm1.2) rfl) hini ⟨q6.1, q6.2, hn⟩ hfit, hts _ (ab_gwM q2 rfl), hts _ (ab_gwM q4 rfl)⟩ ⟨ab_blind _, hrec, fun U hU hW => ⟨rfl, hUat hP hz hS U hU hW⟩⟩ rfl (List.length_map ..) hL.2.1 hstk (lv_room hrest) hdg hcap) hS fun H1 locs1 z1 z2 z3 => hfin (k H1 locs1 lsR z1 z2 z3 hL)
            next => cases h
          next => cases h
        next j as0 has =>
          split at h
          next hcc =>
            cases h
            simp only [Bool.and_eq_true, Bool.not_eq_true', beq_eq_false_iff_ne] at hcc
            obtain ⟨⟨⟨⟨d0, d1⟩, d2⟩, d3⟩, d4⟩ := hcc
            have d0 := Nat.le_of_ble_eq_true d0
            have d1 : j < 27 := Nat.le_of_ble_eq_true d1
            have d2 : 8 = ic (ab_mi k') := Nat.eq_of_beq_eq_true d2
            rw [d3] at q2 q7 q4
            have q4 := q4.resolve_left (fun z => by rcases z with z | z; · cases z
                                                    · exact d4 z)
            have hst := ab_rev has
            have hlen0 : as0.length + 1 = in_ (ab_mi k') := by
              have h1 := congrArg List.length has
              simp at h1
              omega
            have hn : (parseMethodDescriptor (iy (ab_mi k')).desc).map (fun d => d.parameters.length) = some as0.length := by
              cases hp : parseMethodDescriptor (iy (ab_mi k')).desc with
              | none => rw [hp] at q7; cases q7
              | some d =>
                rw [hp] at q7
                have : d.parameters.length + 1 = in_ (ab_mi k') := Option.some.inj q7
                show some d.parameters.length = some as0.length
                congr 1
                omega
            obtain ⟨-, -, ⟨adK, adV, k1, k2, k3⟩, -, -⟩ := hX2
            have e1 := (k2 (j - 10) (by omega)).1
            rw [show 10 + (j - 10) = j by omega] at e1
            have hstk : st.map (ab_v N E) = (as0.map (ab_v N E)).reverse ++ .ref (adK (j - 10)) :: (st.drop (in_ (ab_mi k'))).map (ab_v N E) := by
              conv => lhs; rw [hst]
              rw [List.map_append, List.map_reverse, List.map_cons, ← e1]
              rfl
            have hM' : Met l (iy (ab_mi k')) (ab_wl (ab_mi k')) (ab_rm (ab_mi k') w w1) (va_Pc (.ref (adK (j - 10)) :: as0.map (ab_v N E)) (ab_U X N E cI cH cS D w)) (ab_Qc N E cI cH cS D v w1) (w1.length - w.length) (ab_z w1 - ab_z w) (ab_A N) := by
              rw [← e1]
              exact hM
            have hbl : FrameBlind (va_Pc (.ref (adK (j - 10)) :: as0.map (ab_v N E)) (ab_U X N E cI cH cS D w)) := fun a U g mk h => ⟨h.1, ab_U_blind (s := U) (U := U.calling g mk a) rfl rfl h.2⟩
            refine ⟨rfl, fun H locs lsR hP hz hS hL => ?_⟩
            have hrec : ∃ cell : Cell, H[adK (j - 10)]? = some cell ∧ cell.vm.isStatics = false ∧ s.vm.findClass (iy (ab_mi k')).cls = some cell.cls := by
              have := vk_recv k1 (i := j - 10) (by omega) hS
              rw [q5, ← d2]
              exact this
            cases nest with
            | false =>
              exact ab_after (va_runV (C := (iy (ab_mi k')).cls) ⟨hx, hb, hml, hown, hts⟩ hM' ⟨callB_of _ hts hG rfl rfl rfl hini (hts _ (ab_gwM hm1.2 rfl)) ⟨q6.1, q6.2, hn⟩ hfit, hts _ (ab_gwM q2 rfl), hts _ (ab_gwM q4 rfl)⟩ ⟨hbl, hrec, fun U hU hW => ⟨rfl, hUat hP hz hS U hU hW⟩⟩ rfl (List.length_map ..) hL.2.1 hstk (lv_room hrest) hdg hcap) hS fun H1 locs1 z1 z2 z3 => hfin (k H1 locs1 lsR z1 z2 z3 hL)
            | true =>
              exact ab_after (va_runVN (C := (iy (ab_mi k')).cls) ⟨hx, hb, hml, hown, hts⟩ hM' ⟨va_cnB _ hts hG rfl rfl rfl (hN _ (List.mem_of_getElem? hm1.2) rfl) hini ⟨q6.1, q6.2, hn⟩ hfit, hts _ (ab_gwM q2 rfl), hts _ (ab_gwM q4 rfl)⟩ ⟨hbl, hrec, fun U hU hW => ⟨rfl, hUat hP hz hS U hU hW⟩⟩ rfl (List.length_map ..) hL.2.1 hstk (lv_room hrest) hdg hcap) hS fun H1 locs1 z1 z2 z3 => hfin (k H1 locs1 lsR z1 z2 z3 hL)
          next => cases h
        next => cases h
      · -- special
        rename_i hop0 hop1
        split at h
        next r as0 has =>
          split at h
          next hcc =>
            cases h
            simp only [Bool.and_eq_true, Bool.not_eq_true', beq_iff_eq] at hcc
            obtain ⟨d3, d4⟩ := hcc
            rw [d3] at q2 q7
            have hret : ir (ab_mi k') = none := q9.resolve_left (fun z => z d4)
            have hst := ab_rev has
            have hlen0 : as0.length + 1 = in_ (ab_mi k') := by
              have h1 := congrArg List.length has
              simp at h1
              omega
            have hn : (parseMethodDescriptor (iy (ab_mi k')).desc).map (fun d => d.parameters.length) = some as0.length := by
              cases hp : parseMethodDescriptor (iy (ab_mi k')).desc with
              | none => rw [hp] at q7; cases q7
              | some d =>
                rw [hp] at q7
                have : d.parameters.length + 1 = in_ (ab_mi k') := Option.some.inj q7
                show some d.parameters.length = some as0.length
                congr 1
                omega
            have hstk : st.map (ab_v N E) = (as0.map (ab_v N E)).reverse ++ .ref (N + r) :: (st.drop (in_ (ab_mi k'))).map (ab_v N E) := by
              conv => lhs; rw [hst]
              rw [List.map_append, List.map_reverse, List.map_cons]
              rfl
            have hdg' : decode (ib mi) pc = .ok (.invokespecial ix, 3) := hd2 hop0 hop1
            have hwl : ab_wl (ab_mi k') = .code (iy (ab_mi k')) (ib (ab_mi k')) (iL (ab_mi k')) none :: ab_gw := by
              unfold ab_wl
              rw [hret]
            refine ⟨rfl, fun H locs lsR hP hz hS hL => ?_⟩
            cases nest with
            | false =>
              exact ab_after (va_runI ⟨hx, hb, hml, hown, hts⟩ hM ⟨callB_of _ hts hG hwl rfl rfl hini (hts _ (ab_gwM hm1.2 rfl)) ⟨q6.1, q6.2, hn⟩ hfit, d4, hts _ (ab_gwM q2 rfl)⟩ ⟨ab_blind _, fun U hU hW => ⟨rfl, hUat hP hz hS U hU hW⟩⟩ rfl (List.length_map ..) hL.2.1 hstk (lv_room hrest) hdg' hcap) hS fun H1 locs1 z1 z2 z3 => hfin (k H1 locs1 lsR z1 z2 z3 hL)
            | true =>
              exact ab_after (va_runIN ⟨hx, hb, hml, hown, hts⟩ hM ⟨va_cnB _ hts hG hwl rfl rfl (hN _ (List.mem_of_getElem? hm1.2) rfl) hini ⟨q6.1, q6.2, hn⟩ hfit, d4, hts _ (ab_gwM q2 rfl)⟩ ⟨ab_blind _, fun U hU hW => ⟨rfl, hUat hP hz hS U hU hW⟩⟩ rfl (List.length_map ..) hL.2.1 hstk (lv_room hrest) hdg' hcap) hS fun H1 locs1 z1 z2 z3 => hfin (k H1 locs1 lsR z1 z2 z3 hL)
          next => cases h
        next => cases h
    next => cases h
  next => cases h
end FOUR
