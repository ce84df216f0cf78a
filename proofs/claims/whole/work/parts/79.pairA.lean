/-! BOTH PROGRAMS SIDE BY SIDE -/
section NS
variable {s : List Int32} {n : Nat}
theorem SI_new (I : SI s n) (hl : s.length = 90) (hn : n < 8) {k : Nat} (hk : k < 7) : SI (newS s n (nI k)) (n + 1) := by
  have hh := newS_h (k := nI k) hl hn
  unfold hL at hh
  simp only [List.cons.injEq, Value.int.injEq, and_true] at hh
  obtain ⟨-, e0, e1, e2, e3, e4, e5, e6, e7⟩ := hh
  refine ⟨fun h hh' => ?_, fun d hd => by rw [newS_D (by omega) (fun i hi => by omega)]; exact I.2.1 d hd, fun q hq => ?_⟩
  · by_cases e : h = n
    · subst e
      rw [e0, e1, e2, e3, e4, e5, e6, e7]
      exact ⟨⟨k, hk, rfl⟩, Or.inl rfl, fun i _ _ => b_0 i, ⟨6, by decide, rfl⟩, ⟨22, by decide, rfl⟩, fun i _ _ => b_0 i, ⟨2, by decide, rfl⟩, ⟨h, by omega, rfl⟩⟩
    · have g : ∀ j, j < 8 → fld (newS s n (nI k)) h j = fld s h j := fun j hj => newS_D (by omega) (fun i hi => by omega)
      rw [g 0 (by omega), g 1 (by omega), g 2 (by omega), g 3 (by omega), g 4 (by omega), g 5 (by omega), g 6 (by omega), g 7 (by omega)]
      obtain ⟨a0, a1, a2, a3, a4, a5, a6, j, hj, a7⟩ := I.1 h (by omega)
      exact ⟨a0, a1, a2, a3, a4, a5, a6, j, by omega, a7⟩
  · rw [newS_D (by omega) (fun i hi => by omega)]
    rcases I.2.2 q hq with h | ⟨j, hj, h⟩
    · exact Or.inl h
    · exact Or.inr ⟨j, by omega, h⟩
/-- a row that is as it should be -/
def SL (s : List Int32) (n : Nat) : Prop := SI s n ∧ s.length = 90 ∧ n ≤ 8
variable {tp : List Int32} {tn i h : Nat}
theorem SL.f (L : SL s n) {s1 : List Int32} (h1 : SI s1 n) (h2 : s1.length = s.length) : SL s1 n := ⟨h1, h2.trans L.2.1, L.2.2⟩
theorem rdStair_SL (L : SL s n) (hh : h < n) : SL (rdStair tp tn h i s n).s (rdStair tp tn h i s n).n := by
  have h8 := L.2.2
  unfold rdStair
  split
  · split
    · exact L
    · exact L.f (SI_stair L.1 L.2.1 (by omega) (Or.inr ⟨h - 1, by omega, rfl, Or.inr (by omega)⟩)) (List.length_set ..)
  · split
    · split
      · exact L
      · exact L.f (SI_stair L.1 L.2.1 (by omega) (Or.inr ⟨h + 1, by omega, rfl, Or.inl rfl⟩)) (List.length_set ..)
    · exact L
theorem rdHours_SL (L : SL s n) (hh : h < n) : SL (rdHours tp tn h i s n).s (rdHours tp tn h i s n).n := by
  have h8 := L.2.2
  unfold rdHours
  split
  · split
    · split
      · split
        · rename_i k1 k2 k3 k4
          have L1 : SL (s.set (2 + 8 * h + 3) (nI (tnV tp tn (i + 1)))) n := L.f (SI_from L.1 L.2.1 (by omega) ⟨_, (tkN_ts k2).2, rfl⟩) (List.length_set ..)
          exact L1.f (SI_to L1.1 L1.2.1 (by omega) ⟨_, (tkN_ts k4).2, rfl⟩) (List.length_set ..)
        · exact L
      · exact L
    · exact L
  · exact L
theorem rdSleep_SL (L : SL s n) (hh : h < n) : SL (rdSleep tp tn h i s n).s (rdSleep tp tn h i s n).n := by
  have h8 := L.2.2
  unfold rdSleep
  split
  · split
    · rename_i k1 k2
      exact L.f (SI_sleep L.1 L.2.1 (by omega) ⟨_, (tkN_ts k2).2, rfl⟩) (List.length_set ..)
    · exact L
  · exact L
theorem on_SL {p : PR} {f : Nat → List Int32 → Nat → PR} (hp : SL p.s p.n) (hf : SL (f p.i p.s p.n).s (f p.i p.s p.n).n) : SL (p.on f).s (p.on f).n := by
  cases e : p.ok with
  | false => rw [on_f e]; exact hp
  | true => rw [on_t e]; exact hf
theorem rdHouse_SL {k : Nat} (L : SL s n) (hk : k < 7) : SL (rdHouse tp tn k i s n).s (rdHouse tp tn k i s n).n := by
  unfold rdHouse
  split
  · rename_i h8
    have L0 : SL (newS s n (nI k)) (n + 1) := ⟨SI_new L.1 L.2.1 h8 hk, (newS_l ..).trans L.2.1, by omega⟩
    have L1 := rdStair_SL (tp := tp) (tn := tn) (i := i + 1) L0 (Nat.lt_succ_self n)
    have n1 : (rdStair tp tn n (i + 1) (newS s n (nI k)) (n + 1)).n = n + 1 := rdStair_n
    have L2 := on_SL (f := rdHours tp tn n) L1 (rdHours_SL L1 (by rw [n1]; exact Nat.lt_succ_self n))
    have n2 : ((rdStair tp tn n (i + 1) (newS s n (nI k)) (n + 1)).on (rdHours tp tn n)).n = n + 1 := by
      cases e : (rdStair tp tn n (i + 1) (newS s n (nI k)) (n + 1)).ok with
      | false => rw [on_f e, n1]
      | true => rw [on_t e, rdHours_n, n1]
    exact on_SL L2 (rdSleep_SL L2 (by rw [n2]; exact Nat.lt_succ_self n))
  · exact L
theorem rdNamF_SL {fi : Nat} (hfi : fi = 2 ∨ fi = 5) (hh : h < n) : ∀ (d i : Nat) (s : List Int32), SL s n → SL (rdNamF tp tn fi h d i s n).s (rdNamF tp tn fi h d i s n).n
  | 0, i, s, L => L
  | d + 1, i, s, L => by
    have h8 := L.2.2
    rw [rdNamF]
    split
    · rename_i k1
      have k8 := (tkN_ts k1).2
      have L1 : SL (s.set (2 + 8 * h + fi) (markI (fld s h fi) (tnV tp tn i) true)) n := by
        obtain ⟨-, -, a2, -, -, a5, -, -⟩ := L.1.1 h hh
        rcases hfi with rfl | rfl
        · exact L.f (SI_leave L.1 L.2.1 (by omega) (inn_mark true a2 k8)) (List.length_set ..)
        · exact L.f (SI_foes L.1 L.2.1 (by omega) (inn_mark true a5 k8)) (List.length_set ..)
      split
      · exact rdNamF_SL hfi hh d _ _ L1
      · exact L1
    · exact L
theorem rdItem_SL (L : SL s n) : SL (rdItem tp tn i s n).s (rdItem tp tn i s n).n := by
  have h8 := L.2.2
  unfold rdItem
  split
  · rename_i q; exact rdHouse_SL L q
  · split
    · unfold rdNames
      split
      · rename_i k1; exact rdNamF_SL (Or.inl rfl) (tkN_ts k1).2 _ _ _ L
      · exact L
    · split
      · unfold rdNames
        split
        · rename_i k1; exact rdNamF_SL (Or.inr rfl) (tkN_ts k1).2 _ _ _ L
        · exact L
      · split
        · unfold rdDoor
          split
          · rename_i k1; exact L.f (SI_door L.1 L.2.1 h8 (tkN_ts k1).2) (List.length_set ..)
          · exact L
        · split
          · unfold rdBed
            split
            · rename_i k1
              have := (tkN_ts k1).2
              split
              · split
                · rename_i k3; exact L.f (SI_bed L.1 L.2.1 (by omega) ⟨_, (tkN_ts k3).2, rfl⟩) (List.length_set ..)
                · exact L
              · exact L
            · exact L
          · exact L
theorem rdAll_SL : ∀ (d c i : Nat) (s : List Int32) (n : Nat), SL s n → SL (rdAll tp tn d c i s n).s (rdAll tp tn d c i s n).n
  | 0, c, i, s, n, L => L
  | d + 1, c, i, s, n, L => by
    have L1 := rdItem_SL (tp := tp) (tn := tn) (i := i) L
    rw [rdAll]
    split
    · split
      · exact L1
      · split
        · exact rdAll_SL d _ _ _ _ L1
        · exact L1
    · exact L1
end NS
/-- what both keep beside the row -/
def LI (s : List Int32) (n : Nat) (ks : List Int32) (kp : Bool) (bo so : List Int32) : Prop := SI s n ∧ (kp = true → ∃ m, ks.getD 0 0 = nI m ∧ m ≤ 8 ∧ SI ks m) ∧ ∀ k, k < 4 → bitOK (bo.getD k 0) = true ∧ ∃ z, z ≤ 40 ∧ so.getD k 0 = nI z
/-- the two programs are alike -/
def LW (w : ab_W) : Prop := ∃ s n st ks kp tp tn bo so nu, XW w s n st ks kp tp tn bo so nu ∧ MW w s n st ks kp tp tn bo so nu ∧ LI s n ks kp bo so
/-- both calls, one after the other, tell the same -/
def PQ (X : List Int32) (kx km : Nat) (ax am : List Value) (w : ab_W) : Prop := ab_Q X kx ax w (fun v w1 => ∃ r, v = some (.int r) ∧ w1[54]? = w[54]? ∧ ab_Q X km am w1 (fun v2 w2 => v2 = some (.int r) ∧ LW w2))
section PA
variable {X : List Int32} {w w1 : ab_W} {s s1 : List Int32} {n n1 : Nat} {st ks st1 ks1 : List Int32} {kp kp1 : Bool} {tp tp1 : List Int32} {tn tn1 : Nat} {bo so nu bo1 so1 nu1 : List Int32}
theorem XW.fr (R : XW w s n st ks kp tp tn bo so nu) (F : ∀ i, i < 54 → w1[i]? = w[i]?) : XW w1 s n st ks kp tp tn bo so nu := by
  obtain ⟨x0, XR, ⟨sd, nd, XD⟩, ⟨sk, nk, XK, hkp⟩, XPl, XT, XS, x45, xl⟩ := R
  exact ⟨(F 0 (by omega)).trans x0, XR.fr (fun i _ _ => F i (by omega)), ⟨sd, nd, XD.fr (fun i _ _ => F i (by omega))⟩, ⟨sk, nk, XK.fr (fun i _ _ => F i (by omega)), hkp⟩, XPl.fr (fun i _ _ => F i (by omega)), XT.fr (fun i _ _ => F i (by omega)), XS.fr (fun i _ _ _ => F i (by omega)), (F 45 (by omega)).trans x45, xl⟩
theorem MW.fr (R : MW w s n st ks kp tp tn bo so nu) (F : ∀ i, 54 ≤ i → w1[i]? = w[i]?) : MW w1 s n st ks kp tp tn bo so nu := by
  obtain ⟨oth, nz, mv, fr, to, vl, wr, a54, a55, a56, a57, a58, a59, a60, a61, a62, a63, a64, l, h0, hn, ht⟩ := R
  exact ⟨oth, nz, mv, fr, to, vl, wr, (F _ (by decide)).trans a54, (F _ (by decide)).trans a55, (F _ (by decide)).trans a56, (F _ (by decide)).trans a57, (F _ (by decide)).trans a58, (F _ (by decide)).trans a59, (F _ (by decide)).trans a60, (F _ (by decide)).trans a61, (F _ (by decide)).trans a62, (F _ (by decide)).trans a63, (F _ (by decide)).trans a64, l, h0, hn, ht⟩
theorem q_imp {k : Nat} {as : List Value} {Q1 Q2 : Option Value → ab_W → Prop} (h : ab_Q X k as w Q1) (f : ∀ v w1, Q1 v w1 → Q2 v w1) : ab_Q X k as w Q2 := by
  obtain ⟨v, w1, g, q⟩ := h
  exact ⟨v, w1, g, f v w1 q⟩
theorem pair {kx km : Nat} {ax am : List Value} {r : Int32} (R : MW w s n st ks kp tp tn bo so nu) (x : ab_Q X kx ax w (XP w r s1 n1 st1 ks1 kp1 tp1 tn1 bo1 so1 nu1)) (m : ∀ w1, MW w1 s n st ks kp tp tn bo so nu → ab_Q X km am w1 (MP w1 r s1 n1 st1 ks1 kp1 tp1 tn1 bo1 so1 nu1)) (J : LI s1 n1 ks1 kp1 bo1 so1) : PQ X kx km ax am w := by
  refine q_imp x (fun v w1 q => ?_)
  obtain ⟨hv, XQ, F⟩ := q
  refine ⟨r, hv, F 54 (Nat.le_refl _), q_imp (m w1 (R.fr F)) (fun v2 w2 q2 => ?_)⟩
  obtain ⟨hv2, MQ, F2⟩ := q2
  exact ⟨hv2, _, _, _, _, _, _, _, _, _, _, XQ.fr F2, MQ, J⟩
end PA
