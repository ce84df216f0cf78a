/-! THE LAW FROM ITS ENTRY -/
def lw_nr : List Jvm.Cond := flatC (Jvm.Cond.and given_1 narrow_1)
def lw_ks : List Nat := [169, 171, 173, 175, 177, 179, 181, 183, 185, 187, 188, 189, 190, 191, 192, 194, 195]
def lw_tm (i : Nat) : Jvm.Term := .string "StairRow$Tape" (lw_ks.getD i 0)
def lw_vl (i : Nat) : Jvm.Term := .field (lw_tm i) "java/lang/String" "value" "[B"
def lw_pex : List Nat := [33, 42, 53, 63, 73, 86, 99, 116, 131, 148, 165, 181, 204, 225, 246, 268, 290]
def lw_pco : List Nat := [34, 43, 54, 64, 74, 87, 100, 117, 132, 149, 166, 182, 205, 226, 247, 269, 291]
def lw_par : List Nat := [35, 44, 55, 65, 75, 88, 101, 118, 133, 150, 167, 183, 206, 227, 248, 270, 292]
def lw_ple : List Nat := [36, 45, 56, 66, 76, 89, 102, 119, 134, 151, 168, 184, 207, 228, 249, 271, 293]
def lw_pel : List Nat := [37, 46, 57, 67, 77, 90, 103, 120, 135, 152, 169, 185, 208, 229, 250, 272, 294]
def lw_pne : List (List Nat) := [[0, 52, 61, 70, 82, 94, 110, 124, 140, 156, 171, 193, 213, 233, 254, 275, 296], [0, 0, 62, 71, 83, 95, 111, 125, 141, 157, 172, 194, 214, 234, 255, 276, 297], [0, 0, 0, 72, 84, 96, 112, 126, 142, 158, 173, 195, 215, 235, 256, 277, 298], [0, 0, 0, 0, 85, 97, 113, 127, 143, 159, 174, 196, 216, 236, 257, 278, 299], [0, 0, 0, 0, 0, 98, 114, 128, 144, 160, 175, 197, 217, 237, 258, 279, 300], [0, 0, 0, 0, 0, 0, 115, 129, 145, 161, 176, 198, 218, 238, 259, 280, 301], [0, 0, 0, 0, 0, 0, 0, 130, 146, 162, 177, 199, 219, 239, 260, 281, 302], [0, 0, 0, 0, 0, 0, 0, 0, 147, 163, 178, 200, 220, 240, 261, 282, 303], [0, 0, 0, 0, 0, 0, 0, 0, 0, 164, 179, 201, 221, 241, 262, 283, 304], [0, 0, 0, 0, 0, 0, 0, 0, 0, 0, 180, 202, 222, 242, 263, 284, 305], [0, 0, 0, 0, 0, 0, 0, 0, 0, 0, 0, 203, 223, 243, 264, 285, 306], [0, 0, 0, 0, 0, 0, 0, 0, 0, 0, 0, 0, 224, 244, 265, 286, 307], [0, 0, 0, 0, 0, 0, 0, 0, 0, 0, 0, 0, 0, 245, 266, 287, 308], [0, 0, 0, 0, 0, 0, 0, 0, 0, 0, 0, 0, 0, 0, 267, 288, 309], [0, 0, 0, 0, 0, 0, 0, 0, 0, 0, 0, 0, 0, 0, 0, 289, 310], [0, 0, 0, 0, 0, 0, 0, 0, 0, 0, 0, 0, 0, 0, 0, 0, 311], [0, 0, 0, 0, 0, 0, 0, 0, 0, 0, 0, 0, 0, 0, 0, 0, 0]]
theorem lw_kex : ∀ i, i < 17 → lw_nr[lw_pex.getD i 0]? = some (Cond.exactly (lw_tm i) "java/lang/String") := by decide +kernel
theorem lw_kco : ∀ i, i < 17 → lw_nr[lw_pco.getD i 0]? = some (Cond.eq (.field (lw_tm i) "java/lang/String" "coder" "B") (.int 0)) := by decide +kernel
theorem lw_kar : ∀ i, i < 17 → lw_nr[lw_par.getD i 0]? = some (Cond.arrayOf (lw_vl i) .byte) := by decide +kernel
theorem lw_kle : ∀ i, i < 17 → lw_nr[lw_ple.getD i 0]? = some (Cond.eq (.length (lw_vl i)) (.int (Int32.ofNat (ab_lens.getD i 0)))) := by decide +kernel
theorem lw_kel : ∀ i, i < 17 → ∀ j, j < ab_lens.getD i 0 → lw_nr[lw_pel.getD i 0 + j]? = some (Cond.eq (.elem (lw_vl i) (.int (Int32.ofNat j))) (.int ((ab_str.getD i []).getD j 0))) := by decide +kernel
theorem lw_kne : ∀ i, i < 17 → ∀ j, j < 17 → i < j → lw_nr[(lw_pne.getD i []).getD j 0]? = some (Cond.not (Cond.eq (lw_tm i) (lw_tm j))) := by decide +kernel
theorem lw_kre : ∀ i, i < 17 → lw_tbl[724 + i]? = some (Cond.stringRef "StairRow$Tape" (lw_ks.getD i 0) (ab_strT.getD i "")) := by decide +kernel
theorem lw_kks : ∀ e ∈ ab_ks 4, e.2.1 < 17 ∧ e.1 = lw_ks.getD e.2.1 0 := by decide +kernel
theorem lw_kln : ∀ i, i < 17 → ab_lens.getD i 0 < 2 ^ 31 := by decide +kernel
theorem lw_kab : ∀ j, j < 7 → lw_nr[7 + j]? = some (Cond.eq (.elem (.static "StairRow$House" "ABOVE" "[I") (.int (Int32.ofNat j))) (.int (ab_above.getD j 0))) := by decide +kernel
/-- what lies outside, by its number -/
def ab_E0 (b t : Nat) (v : Value) (adK adV : Nat → Nat) (j : Nat) : Value := if j = 0 then .ref b else if j = 1 then .ref t else if j = 99 then v else if 10 ≤ j ∧ j < 27 then .ref (adK (j - 10)) else if 50 ≤ j ∧ j < 67 then .ref (adV (j - 50)) else .null
theorem ab_E0_ok {b t : Nat} {v : Value} {adK adV : Nat → Nat} (hv : v = .null ∨ ∃ a, v = .ref a) (j : Nat) : ab_E0 b t v adK adV j = .null ∨ ∃ a, ab_E0 b t v adK adV j = .ref a := by
  unfold ab_E0
  split
  · exact Or.inr ⟨_, rfl⟩
  · split
    · exact Or.inr ⟨_, rfl⟩
    · split
      · exact hv
      · split
        · exact Or.inr ⟨_, rfl⟩
        · split
          · exact Or.inr ⟨_, rfl⟩
          · exact Or.inl rfl
theorem ab_E0_k {b t : Nat} {v : Value} {adK adV : Nat → Nat} {i : Nat} (hi : i < 17) : ab_E0 b t v adK adV (10 + i) = .ref (adK i) ∧ ab_E0 b t v adK adV (50 + i) = .ref (adV i) := by
  unfold ab_E0
  refine ⟨?_, ?_⟩
  · rw [if_neg (by omega), if_neg (by omega), if_neg (by omega), if_pos ⟨by omega, by omega⟩, Nat.add_sub_cancel_left]
  · rw [if_neg (by omega), if_neg (by omega), if_neg (by omega), if_neg (by omega), if_pos ⟨by omega, by omega⟩, Nat.add_sub_cancel_left]
theorem lw_arrK {s : State} {cA : ClassId} {k : Class} {comp : ClassId} {ty : FieldType} (hk : s.vm.classes[cA]? = some k) (hkind : k.kind = .array comp ty) : ArrOfT s cA ty := fun n z => ⟨fun k => (by intro e; cases e), k, hk, comp, hkind⟩
def R_law : String := "StairRowLaw"
def lw_P (b : Addr) (xs : List Int32) (args : Array Value) (s : State) : Prop := args = #[.ref b] ∧ s.IntsAt b xs ∧ xs.length ≤ 384 ∧ (Jvm.Cond.and given_1 narrow_1).before args s = true
def lw_Q (_ : Array Value) (s : State) (o : Outcome) (t : State) : Prop := o = .returned (some (.int 1)) ∧ Framed s o t [] 600000 7302250
def lw_Z (below : List Frame) (a : Array Value) (s : State) : State → Prop := fun t => ∃ o, t.status = .running ∧ Ended t below o ∧ lw_Q a s o t
theorem lw_ret {p : Program} {l : Launch} {e : Env} {s : State} {m : MethodId} {below : List Frame} {meth : Method} {c : Code} {b : Nat} (hx : p.tables.exec = Jvm.exec) (hb : c.code = code) (hr : meth.sig.returnType = ret) (hlocks : meth.locks = false) {pc : Nat} {H : Heap} {ls : Array Slot} (hdg : decode code pc = .ok (.ireturn, 1)) : W p l e room_1 s m #[Value.ref b] below meth c H [] 600000 7302250 (lw_Z below #[Value.ref b] s) (F0 m pc ls [.int 1]) := by
  intro T hT X
  obtain ⟨fs, hret, hrun, hended, hW, hframe⟩ := X.leave (v := some (.int 1)) (hlocks := hlocks) (fun h => by rw [hr] at h; cases h)
  have hmeth' : T.vm.method? m = some meth := X.method'
  refine ⟨T.setFrames fs, ?_, .returned (some (.int 1)), hrun, hended, rfl, ⟨_, rfl⟩, hW, hframe⟩
  jvm_step X.here [X.here.top, hx, hb, hdg, hmeth', hr, ret, narrow_b1]
  (try refine ⟨rfl, ?_⟩); (try refine ⟨rfl, ?_⟩)
  first | (intro acts; rw [hret _ acts rfl rfl rfl]) | rw [hret _ _ rfl rfl rfl]
  exact Steps.refl _
/-- what holds at the law's entry -/
def lw_At (p : Program) (s : State) (m : MethodId) (meth : Method) (c : Code) (b : Nat) (X : List Int32) : Prop :=
  p.tables.exec = Jvm.exec ∧ c.code = code ∧ meth.sig.returnType = ret ∧ c.maxLocals = 4 ∧ s.vm.findClass R_law = some m.cls ∧ (∀ w ∈ lw_tbl, w.before #[Value.ref b] s = true) ∧ va_X b X.length (fun j => X.getD j 0) s s.heap ∧ b < s.heap.size ∧ meth.locks = false ∧ (Jvm.Cond.and given_1 narrow_1).before #[Value.ref b] s = true ∧ meth.name = "law"
set_option maxRecDepth 100000 in
set_option maxHeartbeats 4000000 in
-- all that the rows ask for, at the entry
theorem lw_B {p : Program} {s : State} {m : MethodId} {meth : Method} {c : Code} {b : Nat} {X : List Int32} (C0 : lw_At p s m meth c b X) : ∃ (E : Nat → Value) (cI cH cS : ClassId) (D : va_G), E 0 = .ref b ∧ (∀ j, E j = .null ∨ ∃ a, E j = .ref a) ∧ ab_B p s m #[Value.ref b] meth c (ab_mi 246) X s.heap.size E cI cH cS D [] := by
  obtain ⟨hx, hb, hr, hml, hown, hts, hX, hbl, hlocks, hgv, hnm⟩ := C0
  have hgw : ∀ x ∈ ab_gw, x.before #[Value.ref b] s = true := fun x hx => hts x (List.mem_filter.mp hx).1
  have hs : ∀ c ∈ lw_nr, c.before #[Value.ref b] s = true := flat_of_before _ hgv
  have hA : ∀ a : Nat, a < s.heap.size → ¬ ab_A s.heap.size a := fun a h => by unfold ab_A; omega
  have hN : ∀ (i : Nat) {x : Jvm.Cond}, lw_nr[i]? = some x → x.before #[Value.ref b] s = true := fun i x h => hs x (List.mem_of_getElem? h)
  have hT : ∀ (i : Nat) {x : Jvm.Cond}, lw_tbl[i]? = some x → x.before #[Value.ref b] s = true := fun i x h => hts x (List.mem_of_getElem? h)
  -- the classes
  have h7 : vwCl.length = 7 := by decide +kernel
  have hkn : ∀ ci, ∃ q : ClassId × (Nat → Nat), ci < 7 → u_Kn s (ab_nm ci) (ab_T ci) (ab_N ci) q.1 q.2 := by
    intro ci
    by_cases hci : ci < 7
    · obtain ⟨-, hin, -, -, -, hins, -⟩ := ab_cls ci hci
      obtain ⟨cC, iS, h⟩ := u_known hgw hin (hgw _ hins)
      exact ⟨(cC, iS), fun _ => h⟩
    · exact ⟨(0, fun _ => 0), fun h => absurd h hci⟩
  obtain ⟨fD, hfD⟩ := Classical.axiomOfChoice hkn
  obtain ⟨cI, kI, compI, i1, i2, i3⟩ := Cond.arrayClass_spec (hT 197 (x := .arrayClass .int) (by decide +kernel))
  have oH := hT 148 (x := .arrayOver (.object RX0)) (by decide +kernel)
  have oS := hT 268 (x := .arrayOver (.object RX3)) (by decide +kernel)
  obtain ⟨compH, cH, kH, g1, g2, g3, g4, g5⟩ := Cond.arrayOver_spec oH
  obtain ⟨compS, cS, kS, f1, f2, f3, f4, f5⟩ := Cond.arrayOver_spec oS
  have hK : va_K (fun k => (fD k).1, fun k => (fD k).2) vwCl [(cI, .int), (cH, .object RX0), (cS, .object RX3)] s := by
    refine ⟨fun k q hq => ?_, fun k q hq => ?_⟩
    · have hk : k < 7 := by
        have := (List.getElem?_eq_some_iff.mp hq).1
        omega
      have e := (ab_cls k hk).1
      rw [hq] at e
      cases e
      exact hfD k hk
    · match k, hq with
      | 0, hq => cases hq; exact ⟨lw_arrK i2 i3, i1⟩
      | 1, hq => cases hq; exact ⟨lw_arrK g3 g4, kH, compH, g3, g4, g1, g5⟩
      | 2, hq => cases hq; exact ⟨lw_arrK f3 f4, kS, compS, f3, f4, f1, f5⟩
      | k + 3, hq => cases hq
  -- the table of a house's beds
  obtain ⟨t, t1, t2⟩ := va_Tof (ty := .int) (tm := .static "StairRow$House" "ABOVE" "[I") (N := 7) (f := fun j => .int (ab_above.getD j 0)) (by decide) (hN 5 (by decide +kernel)) (va_eqt (hN 6 (by decide +kernel))) (fun j hj => va_eqt (hN _ (lw_kab j hj))) hA
  have t3 := va_Zof (hT 320 (x := .laysStatic "StairRow$House" "ABOVE" "[I") (by decide +kernel)) (hT 121 (x := .initialized "StairRow$House") (by decide +kernel)) t1 hA
  -- the texts
  obtain ⟨adK, adV, k1, k2⟩ := vk_Sof (N := 17) (tm := lw_tm) (len := ab_lens) (byt := ab_str) lw_kln (fun i hi => hN _ (lw_kex i hi)) (fun i hi => hN _ (lw_kco i hi)) (fun i hi => hN _ (lw_kar i hi)) (fun i hi => hN _ (lw_kle i hi)) (fun i hi j hj => hN _ (lw_kel i hi j hj)) (fun i j hi hj e => by
    rcases Nat.lt_or_gt_of_ne e with h | h
    · exact Or.inl (hN _ (lw_kne i hi j hj h))
    · exact Or.inr (hN _ (lw_kne j hj i hi h))) hA
  have z1 := va_Zof (v := .int 1) (hT 754 (x := .laysStatic "java/lang/String" "COMPACT_STRINGS" "Z") (by decide +kernel)) (hT 128 (x := .initialized "java/lang/String") (by decide +kernel)) (va_eqi (hN 14 (by decide +kernel))) hA
  obtain ⟨vS, v1, v2⟩ := Cond.isRef_spec (hN 15 (x := .isRef (.static "jdk/internal/util/Preconditions" "SIOOBE_FORMATTER" "Ljava/util/function/BiFunction;")) (by decide +kernel))
  have z2 := va_Zof (hT 770 (x := .laysStatic "jdk/internal/util/Preconditions" "SIOOBE_FORMATTER" "Ljava/util/function/BiFunction;") (by decide +kernel)) (hT 130 (x := .initialized "jdk/internal/util/Preconditions") (by decide +kernel)) v1 hA
  have hvS : vS = .null ∨ ∃ a, vS = .ref a := by
    cases vS with
    | null => exact Or.inl rfl
    | ref a => exact Or.inr ⟨a, rfl⟩
    | _ => cases v2
  refine ⟨ab_E0 b t vS adK adV, cI, cH, cS, (fun k => (fD k).1, fun k => (fD k).2), rfl, ab_E0_ok hvS, hx, hb, hml, hown, hgw, ?_, hnm, by decide +kernel, ab_E0_ok hvS, by decide +kernel⟩
  refine ⟨fun k q h => absurd h (by simp [ab_ws]), rfl, hK, va_AO.of oH, va_AO.of oS, fun x hx hn => ?_, ⟨b, rfl, hX, hbl⟩, ⟨t, rfl, t3, t2⟩, ⟨adK, adV, k1, fun i hi => ab_E0_k hi, fun e he => ?_⟩, z1, z2⟩
  · refine va_Nw.of ?_ (hts x hx)
    cases x with
    | fieldLinkNest a i b n d h => rfl
    | methodLinkNest a i x h => rfl
    | _ => cases hn
  · obtain ⟨e1, e2⟩ := lw_kks e he
    have h1 := hT _ (lw_kre e.2.1 e1)
    rw [← e2] at h1
    refine vk_R.of h1 ?_
    rw [e2]
    exact k2 _ e1
set_option maxRecDepth 100000 in
set_option maxHeartbeats 4000000 in
theorem whole_start {p : Program} {e : Env} {s : State} {m : MethodId} {below : List Frame} {meth : Method} {c : Code} (l : Launch) {b : Nat} {X : List Int32} (hL : X.length ≤ 384) (C0 : lw_At p s m meth c b X) : W p l e room_1 s m #[Value.ref b] below meth c s.heap [] 0 0 (lw_Z below #[Value.ref b] s) (entryFrame m ([Value.ref b] : List Value).toArray 4) := by
  obtain ⟨E, cI, cH, cS, D, hE0, hE, B⟩ := lw_B C0
  obtain ⟨hx, hb, hr, -, -, -, -, -, hlocks, -, -⟩ := C0
  obtain ⟨n, w', hrun, hc, hz⟩ := lw_run hL
  have key := (ab_main (l := l) hE ab_hc1 ab_hc2 n 246 (by decide) 0 _ [] [] _ w' hrun).2 (e := e) (R := room_1) (below := below) (Q := lw_Z below #[Value.ref b] s) B ⟨Nat.le_refl _, Nat.le_refl _⟩ ⟨hc, hz⟩ ⟨Nat.le_of_ble_eq_true rfl, Nat.le_of_ble_eq_true rfl⟩ (fun i n' pc1 ls1 st1 hdec hn hex => by
    intro H locs lsR hP hzH hS hL
    have hdg := hdec
    cases i with
    | ireturn =>
      rw [hn.resolve_left (fun z => Nat.succ_ne_zero _ z)] at hdg
      simp only [ab_ex] at hex
      split at hex
      next v =>
        split at hex
        next hfit =>
          cases hex
          refine va_forget (fun q hq => hS.2.2 q hq) ?_
          refine W.widen (k := 600000) (n := 7302250) hc hz ?_
          exact lw_ret hx hb hr hlocks hdg
        next => cases hex
      next => cases hex
    | lreturn | areturn | return_ =>
      simp only [ab_ex] at hex
      repeat' split at hex
      all_goals cases hex
    | _ => exact absurd (ab_ex_ret hex).2 (by simp))
  have hl : (lg_sl (([.retAddr 0] : List Value).map (ab_v s.heap.size E))).length ≤ 4 := by
    show (lg_sl [E 0]).length ≤ 4
    rw [hE0]
    exact Nat.le_of_ble_eq_true rfl
  have k2 := key s.heap [] _ (fun k q h => absurd h (by simp [ab_ws])) rfl va_S.rf (ab_entry hE hl)
  have e1 : (([.retAddr 0] : List Value).map (ab_v s.heap.size E)) = [.ref b] := by
    show [E 0] = _
    rw [hE0]
  rw [e1] at k2
  rw [lg_entry_eq]
  exact k2
