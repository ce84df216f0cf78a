/-! THE ABSTRACT MACHINE: a small interpreter over a list of cells; refs are places in the list, retAddr k stands for a cell outside (0 script, 1 ABOVE, 10+i a text, 50+i its bytes, 99 a thing that nobody asks) -/
abbrev iy (i : ab_I) : MethodName := i.1
abbrev ib (i : ab_I) : ByteArray := i.2.1
abbrev iL (i : ab_I) : Nat := i.2.2.1
abbrev ir (i : ab_I) : Option FieldType := i.2.2.2.1
abbrev ic (i : ab_I) : Nat := i.2.2.2.2.1
abbrev is_ (i : ab_I) : Bool := i.2.2.2.2.2.1
abbrev in_ (i : ab_I) : Nat := i.2.2.2.2.2.2.1
abbrev ih_ (i : ab_I) : Nat := i.2.2.2.2.2.2.2.1
abbrev ip_ (i : ab_I) : Nat × Nat × Nat × Nat := i.2.2.2.2.2.2.2.2.1
abbrev it_ (i : ab_I) : List (Nat × Instr × Nat) := i.2.2.2.2.2.2.2.2.2
def ab_d0 : ab_I := (⟨"", "", ""⟩, ⟨#[]⟩, 0, none, 0, false, 0, 0, (0, 0, 0, 0), [])
def ab_mi (k : Nat) : ab_I := ab_ms.getD k ab_d0
def ab_lk {α : Type} : List (Nat × α) → Nat → Option α
  | [], _ => none
  | (p, x) :: l, q => cond (Nat.beq p q) (some x) (ab_lk l q)
abbrev ab_E : Type := (Nat × List Value) ⊕ List Int32
abbrev ab_W : Type := List ab_E
abbrev ab_C : Type := Nat × List (Option Value) × List Value × ab_W
abbrev ab_R : Type := ab_C ⊕ ((Option Value × ab_W) ⊕ (Nat × List Value × ab_C))
def ab_nx (pc : Nat) (ls : List (Option Value)) (st : List Value) (w : ab_W) : Option ab_R := some (.inl (pc, ls, st, w))
def ab_above : List Int32 := [-1, 0, 0, 2, 1, 0, 1]
/-- an int array outside -/
def ab_xi (X : List Int32) (j : Nat) : Option (List Int32) := match j with
  | 0 => some X
  | 1 => some ab_above
  | _ => none
def ab_in (i : Int32) (n : Nat) : Bool := !decide (i < 0) && decide (i.toNatClampNeg < n)
def ab_isA : Value → Bool
  | .ref _ => true
  | .null => true
  | .retAddr _ => true
  | _ => false
def ab_set1 (ls : List (Option Value)) (k : Nat) (v : Value) : Option (List (Option Value)) :=
  match k with
  | 0 => if 0 < ls.length then some (ls.set 0 (some v)) else none
  | j + 1 => match ls[j]? with
    | some (some (.long _)) => none
    | some (some (.double _)) => none
    | _ => if j + 1 < ls.length then some (ls.set (j + 1) (some v)) else none
def ab_set2 (ls : List (Option Value)) (k : Nat) (v : Value) : Option (List (Option Value)) :=
  match k with
  | 0 => if 1 < ls.length then some ((ls.set 0 (some v)).set 1 none) else none
  | j + 1 => match ls[j]? with
    | some (some (.long _)) => none
    | some (some (.double _)) => none
    | _ => if j + 2 < ls.length then some ((ls.set (j + 1) (some v)).set (j + 2) none) else none
def ab_cmp (c : Jvm.ClassFile.Cond) (x y : Int32) : Bool := match c with
  | .eq => decide (x = y)
  | .ne => !decide (x = y)
  | .lt => decide (x < y)
  | .ge => decide (y ≤ x)
  | .gt => decide (y < x)
  | .le => decide (x ≤ y)
def ab_tg (pc : Nat) (off : Int) : Option Nat := match (pc : Int) + off with
  | .ofNat n => some n
  | .negSucc _ => none
def ab_go (pc : Nat) (off : Int) (ls : List (Option Value)) (st : List Value) (w : ab_W) : Option ab_R := match ab_tg pc off with
  | some t => ab_nx t ls st w
  | none => none
def ab_if (b : Bool) (pc : Nat) (off : Int) (ls : List (Option Value)) (st : List Value) (w : ab_W) : Option ab_R := match ab_tg pc off with
  | some t => match b with
    | true => ab_nx t ls st w
    | false => ab_nx (pc + 3) ls st w
  | none => none
def ab_fit : FieldType → Value → Bool
  | .int, .int _ => true
  | .boolean, .int v => v == 0 || v == 1
  | .object _, v => ab_isA v
  | .array _, v => ab_isA v
  | _, _ => false
def ab_rfit : Option FieldType → Int32 → Bool
  | some .int, _ => true
  | some .boolean, v => v == 0 || v == 1
  | some .byte, v => v == v.toInt8.toInt32
  | some .char, v => v == v.toUInt32.toUInt16.toUInt32.toInt32
  | _, _ => false
def ab_cty (ci fi : Nat) : FieldType := match ci with
  | 0 => tyX0 fi
  | 1 => tyX1 fi
  | 2 => tyX2 fi
  | 3 => tyX3 fi
  | 4 => tyX4 fi
  | 5 => tyX5 fi
  | _ => tyX6 fi
def ab_T (ci : Nat) : u_T := match ci with
  | 0 => TX0
  | 1 => TX1
  | 2 => TX2
  | 3 => TX3
  | 4 => TX4
  | 5 => TX5
  | _ => TX6
def ab_N (ci : Nat) : Nat := [9, 4, 5, 3, 7, 8, 16].getD ci 0
def ab_dv : FieldType → Value
  | .int => .int 0
  | .boolean => .int 0
  | _ => .null
def ab_dfl (ci : Nat) : List Value := (List.range (ab_N ci)).map (fun fi => ab_dv (ab_cty ci fi))
def ab_fl (c : Nat) := ab_flL.getD c []
def ab_me (c : Nat) := ab_meL.getD c []
def ab_nw (c : Nat) := ab_nwL.getD c []
def ab_na (c : Nat) := ab_naL.getD c []
def ab_ki (c : Nat) := ab_kiL.getD c []
def ab_kl (c : Nat) := ab_klL.getD c []
def ab_ks (c : Nat) := ab_ksL.getD c []
def ab_st (c : Nat) := ab_stL.getD c []
def ab_ob (c : Nat) := ab_obL.getD c []
def ab_ac (c : Nat) := ab_acL.getD c []
def ab_mx (c : Nat) := ab_mxL.getD c []
def ab_ldi (ls : List (Option Value)) (k pc : Nat) (st : List Value) (w : ab_W) : Option ab_R := match ls[k]? with
  | some (some (.int x)) => ab_nx pc ls (.int x :: st) w
  | _ => none
def ab_ldl (ls : List (Option Value)) (k pc : Nat) (st : List Value) (w : ab_W) : Option ab_R := match ls[k]? with
  | some (some (.long x)) => ab_nx pc ls (.long x :: st) w
  | _ => none
def ab_lda (ls : List (Option Value)) (k pc : Nat) (st : List Value) (w : ab_W) : Option ab_R := match ls[k]? with
  | some (some (.ref x)) => ab_nx pc ls (.ref x :: st) w
  | some (some .null) => ab_nx pc ls (.null :: st) w
  | some (some (.retAddr x)) => ab_nx pc ls (.retAddr x :: st) w
  | _ => none
def ab_sti (ls : List (Option Value)) (k pc : Nat) (st : List Value) (w : ab_W) : Option ab_R := match st with
  | .int x :: st => match ab_set1 ls k (.int x) with
    | some ls => ab_nx pc ls st w
    | none => none
  | _ => none
def ab_stl (ls : List (Option Value)) (k pc : Nat) (st : List Value) (w : ab_W) : Option ab_R := match st with
  | .long x :: st => match ab_set2 ls k (.long x) with
    | some ls => ab_nx pc ls st w
    | none => none
  | _ => none
def ab_sta (ls : List (Option Value)) (k pc : Nat) (st : List Value) (w : ab_W) : Option ab_R := match st with
  | .ref x :: st => match ab_set1 ls k (.ref x) with
    | some ls => ab_nx pc ls st w
    | none => none
  | .null :: st => match ab_set1 ls k .null with
    | some ls => ab_nx pc ls st w
    | none => none
  | .retAddr x :: st => match ab_set1 ls k (.retAddr x) with
    | some ls => ab_nx pc ls st w
    | none => none
  | _ => none
def ab_getf (c pc ix : Nat) (ls : List (Option Value)) (st : List Value) (w : ab_W) : Option ab_R := match st with
  | .ref r :: st => match ab_lk (ab_fl c) ix with
    | some (ci, fi, _, _) => match w[r]? with
      | some (.inl (k, vs)) => match Nat.beq k ci && Nat.blt ci 7, vs[fi]? with
        | true, some v => ab_nx (pc + 3) ls (v :: st) w
        | _, _ => none
      | _ => none
    | none => none
  | .retAddr j :: st => match ab_lk (ab_fl c) ix with
    | some (8, 0, _, _) => match Nat.ble 10 j && Nat.blt j 27 with
      | true => ab_nx (pc + 3) ls (.retAddr (j + 40) :: st) w
      | false => none
    | some (8, 1, _, _) => match Nat.ble 10 j && Nat.blt j 27 with
      | true => ab_nx (pc + 3) ls (.int 0 :: st) w
      | false => none
    | _ => none
  | _ => none
def ab_putf (mi : ab_I) (pc ix : Nat) (ls : List (Option Value)) (st : List Value) (w : ab_W) : Option ab_R := match st with
  | v :: .ref r :: st => match ab_lk (ab_fl (ic mi)) ix with
    | some (ci, fi, nest, _) => match w[r]? with
      | some (.inl (k, vs)) => match Nat.beq k ci && Nat.blt ci 7 && Nat.blt fi vs.length && ab_fit (ab_cty ci fi) v && (!(ab_T ci fi).2.2.2 || ((iy mi).name == "<init>" && !nest && Nat.beq (ic mi) ci)) with
        | true => ab_nx (pc + 3) ls st (w.set r (.inl (k, vs.set fi v)))
        | false => none
      | _ => none
    | none => none
  | _ => none
def ab_alen (X : List Int32) (pc : Nat) (ls : List (Option Value)) (st : List Value) (w : ab_W) : Option ab_R := match st with
  | .ref r :: st => match w[r]? with
    | some (.inr xs) => ab_nx (pc + 1) ls (.int (Int32.ofNat xs.length) :: st) w
    | some (.inl (k, vs)) => match Nat.beq k 7 || Nat.beq k 8 with
      | true => ab_nx (pc + 1) ls (.int (Int32.ofNat vs.length) :: st) w
      | false => none
    | none => none
  | .retAddr j :: st => match ab_xi X j with
    | some xs => ab_nx (pc + 1) ls (.int (Int32.ofNat xs.length) :: st) w
    | none => match Nat.ble 50 j, ab_str[j - 50]? with
      | true, some xs => ab_nx (pc + 1) ls (.int (Int32.ofNat xs.length) :: st) w
      | _, _ => none
  | _ => none
def ab_iald (X : List Int32) (pc : Nat) (ls : List (Option Value)) (st : List Value) (w : ab_W) : Option ab_R := match st with
  | .int i :: .ref r :: st => match w[r]? with
    | some (.inr xs) => match ab_in i xs.length with
      | true => ab_nx (pc + 1) ls (.int (xs.getD i.toNatClampNeg 0) :: st) w
      | false => none
    | _ => none
  | .int i :: .retAddr j :: st => match ab_xi X j with
    | some xs => match ab_in i xs.length with
      | true => ab_nx (pc + 1) ls (.int (xs.getD i.toNatClampNeg 0) :: st) w
      | false => none
    | none => none
  | _ => none
def ab_iast (pc : Nat) (ls : List (Option Value)) (st : List Value) (w : ab_W) : Option ab_R := match st with
  | .int x :: .int i :: .ref r :: st => match w[r]? with
    | some (.inr xs) => match ab_in i xs.length with
      | true => ab_nx (pc + 1) ls st (w.set r (.inr (xs.set i.toNatClampNeg x)))
      | false => none
    | _ => none
  | _ => none
def ab_bald (pc : Nat) (ls : List (Option Value)) (st : List Value) (w : ab_W) : Option ab_R := match st with
  | .int i :: .retAddr j :: st => match Nat.ble 50 j, ab_str[j - 50]? with
    | true, some xs => match ab_in i xs.length with
      | true => ab_nx (pc + 1) ls (.int (xs.getD i.toNatClampNeg 0) :: st) w
      | false => none
    | _, _ => none
  | _ => none
def ab_aald (pc : Nat) (ls : List (Option Value)) (st : List Value) (w : ab_W) : Option ab_R := match st with
  | .int i :: .ref r :: st => match w[r]? with
    | some (.inl (k, vs)) => match (Nat.beq k 7 || Nat.beq k 8) && ab_in i vs.length with
      | true => match vs[i.toNatClampNeg]? with
        | some (.ref q) => ab_nx (pc + 1) ls (.ref q :: st) w
        | _ => none
      | false => none
    | _ => none
  | _ => none
/-- the class of what an array of references holds -/
def ab_el (k : Nat) : Nat := match k with
  | 7 => 0
  | _ => 3
def ab_aast (pc : Nat) (ls : List (Option Value)) (st : List Value) (w : ab_W) : Option ab_R := match st with
  | .ref v :: .int i :: .ref r :: st => match w[r]?, w[v]? with
    | some (.inl (k, vs)), some (.inl (ci, _)) => match (Nat.beq k 7 || Nat.beq k 8) && ab_in i vs.length && Nat.beq ci (ab_el k) with
      | true => ab_nx (pc + 1) ls st (w.set r (.inl (k, vs.set i.toNatClampNeg (.ref v))))
      | false => none
    | _, _ => none
  | _ => none
def ab_inv (mi : ab_I) (op : Nat) (pc ix : Nat) (ls : List (Option Value)) (st : List Value) (w : ab_W) : Option ab_R :=
  match ab_lk (ab_me (ic mi)) ix with
  | some (k', _, _) =>
    match Nat.ble (in_ (ab_mi k')) st.length && Nat.blt (ih_ (ab_mi k')) (ih_ mi) && Nat.ble (iL (ab_mi k')) 13 && decide (((st.drop (in_ (ab_mi k'))).map Value.category).sum ≤ 8) && decide ((lg_sl (st.take (in_ (ab_mi k'))).reverse).length ≤ iL (ab_mi k')) with
    | true => match op with
      | 0 => match is_ (ab_mi k') with
        | true => some (.inr (.inr (k', (st.take (in_ (ab_mi k'))).reverse, (pc + 3, ls, st.drop (in_ (ab_mi k')), w))))
        | false => none
      | 1 => match (st.take (in_ (ab_mi k'))).reverse with
        | .ref r :: as => match w[r]? with
          | some (.inl (ci, _)) => match Nat.beq ci (ic (ab_mi k')) && Nat.blt ci 7 && !is_ (ab_mi k') && !((iy (ab_mi k')).name == "<init>") with
            | true => some (.inr (.inr (k', .ref r :: as, (pc + 3, ls, st.drop (in_ (ab_mi k')), w))))
            | false => none
          | _ => none
        | .retAddr j :: as => match Nat.ble 10 j && Nat.blt j 27 && Nat.beq 8 (ic (ab_mi k')) && !is_ (ab_mi k') && !((iy (ab_mi k')).name == "<init>") with
          | true => some (.inr (.inr (k', .retAddr j :: as, (pc + 3, ls, st.drop (in_ (ab_mi k')), w))))
          | false => none
        | _ => none
      | _ => match (st.take (in_ (ab_mi k'))).reverse with
        | .ref r :: as => match !is_ (ab_mi k') && (iy (ab_mi k')).name == "<init>" with
          | true => some (.inr (.inr (k', .ref r :: as, (pc + 3, ls, st.drop (in_ (ab_mi k')), w))))
          | false => none
        | _ => none
    | false => none
  | none => none
def ab_cpy (pc : Nat) (ls : List (Option Value)) (st : List Value) (w : ab_W) : Option ab_R := match st with
  | .int n :: .int dp :: .ref a :: .int sp :: .ref a0 :: st => match w[a0]?, w[a]? with
    | some (.inr xs), some (.inr ys) =>
      match !decide (sp < 0) && !decide (dp < 0) && !decide (n < 0) && Nat.ble (sp.toNatClampNeg + n.toNatClampNeg) xs.length && Nat.ble (dp.toNatClampNeg + n.toNatClampNeg) ys.length && decide ((st.map Value.category).sum ≤ 8) with
      | true => ab_nx (pc + 3) ls st (w.set a (.inr ((List.range ys.length).map (va_cpy (fun j => xs.getD j 0) (fun j => ys.getD j 0) sp.toNatClampNeg dp.toNatClampNeg n.toNatClampNeg))))
      | false => none
    | _, _ => none
  | _ => none
def ab_ex (X : List Int32) (mi : ab_I) (i : Instr) (pc : Nat) (ls : List (Option Value)) (st : List Value) (w : ab_W) : Option ab_R :=
  match i with
  | .iconst v => ab_nx (pc + 1) ls (.int (Int32.ofInt v) :: st) w
  | .bipush v => ab_nx (pc + 2) ls (.int (Int8.ofInt v).toInt32 :: st) w
  | .sipush v => ab_nx (pc + 3) ls (.int (Int16.ofInt v).toInt32 :: st) w
  | .lconst v => ab_nx (pc + 1) ls (.long (Int64.ofNat v) :: st) w
  | .aconst_null => ab_nx (pc + 1) ls (.null :: st) w
  | .ldc ix => match ab_lk (ab_ki (ic mi)) ix with
    | some (v, _) => ab_nx (pc + 2) ls (.int v :: st) w
    | none => match ab_lk (ab_ks (ic mi)) ix with
      | some (j, _) => ab_nx (pc + 2) ls (.retAddr (10 + j) :: st) w
      | none => none
  | .ldc_w ix => match ab_lk (ab_ki (ic mi)) ix with
    | some (v, _) => ab_nx (pc + 3) ls (.int v :: st) w
    | none => none
  | .ldc2_w ix => match ab_lk (ab_kl (ic mi)) ix with
    | some (v, _) => ab_nx (pc + 3) ls (.long v :: st) w
    | none => none
  | .iload_n k => ab_ldi ls k (pc + 1) st w
  | .iload k => ab_ldi ls k (pc + 2) st w
  | .lload_n k => ab_ldl ls k (pc + 1) st w
  | .lload k => ab_ldl ls k (pc + 2) st w
  | .aload_n k => ab_lda ls k (pc + 1) st w
  | .aload k => ab_lda ls k (pc + 2) st w
  | .istore_n k => ab_sti ls k (pc + 1) st w
  | .istore k => ab_sti ls k (pc + 2) st w
  | .lstore_n k => ab_stl ls k (pc + 1) st w
  | .astore_n k => ab_sta ls k (pc + 1) st w
  | .astore k => ab_sta ls k (pc + 2) st w
  | .iinc k d => match ls[k]? with
    | some (some (.int x)) => ab_nx (pc + 3) (ls.set k (some (.int (x + Int32.ofInt d)))) st w
    | _ => none
  | .iadd => match st with
    | .int y :: .int x :: st => ab_nx (pc + 1) ls (.int (x + y) :: st) w
    | _ => none
  | .isub => match st with
    | .int y :: .int x :: st => ab_nx (pc + 1) ls (.int (x - y) :: st) w
    | _ => none
  | .imul => match st with
    | .int y :: .int x :: st => ab_nx (pc + 1) ls (.int (x * y) :: st) w
    | _ => none
  | .iand => match st with
    | .int y :: .int x :: st => ab_nx (pc + 1) ls (.int (x &&& y) :: st) w
    | _ => none
  | .ior => match st with
    | .int y :: .int x :: st => ab_nx (pc + 1) ls (.int (x ||| y) :: st) w
    | _ => none
  | .ixor => match st with
    | .int y :: .int x :: st => ab_nx (pc + 1) ls (.int (x ^^^ y) :: st) w
    | _ => none
  | .ishl => match st with
    | .int y :: .int x :: st => ab_nx (pc + 1) ls (.int (x <<< (y &&& 31)) :: st) w
    | _ => none
  | .ishr => match st with
    | .int y :: .int x :: st => ab_nx (pc + 1) ls (.int (x >>> (y &&& 31)) :: st) w
    | _ => none
  | .iushr => match st with
    | .int y :: .int x :: st => ab_nx (pc + 1) ls (.int ((x.toUInt32 >>> (y.toUInt32 &&& Int32.toUInt32 31)).toInt32) :: st) w
    | _ => none
  | .idiv => match st with
    | .int y :: .int x :: st => match decide (y = 0) with
      | true => none
      | false => ab_nx (pc + 1) ls (.int (x / y) :: st) w
    | _ => none
  | .irem => match st with
    | .int y :: .int x :: st => match decide (y = 0) with
      | true => none
      | false => ab_nx (pc + 1) ls (.int (x - x / y * y) :: st) w
    | _ => none
  | .i2b => match st with
    | .int x :: st => ab_nx (pc + 1) ls (.int (x.toInt8.toInt32) :: st) w
    | _ => none
  | .i2s => match st with
    | .int x :: st => ab_nx (pc + 1) ls (.int (x.toInt16.toInt32) :: st) w
    | _ => none
  | .i2c => match st with
    | .int x :: st => ab_nx (pc + 1) ls (.int ((x.toUInt32 % 65536).toInt32) :: st) w
    | _ => none
  | .i2l => match st with
    | .int x :: st => ab_nx (pc + 1) ls (.long x.toInt64 :: st) w
    | _ => none
  | .ladd => match st with
    | .long y :: .long x :: st => ab_nx (pc + 1) ls (.long (x + y) :: st) w
    | _ => none
  | .lmul => match st with
    | .long y :: .long x :: st => ab_nx (pc + 1) ls (.long (x * y) :: st) w
    | _ => none
  | .lcmp => match st with
    | .long y :: .long x :: st => ab_nx (pc + 1) ls (.int (lg_cmp x y) :: st) w
    | _ => none
  | .dup => match st with
    | .int v :: st => ab_nx (pc + 1) ls (.int v :: .int v :: st) w
    | .ref v :: st => ab_nx (pc + 1) ls (.ref v :: .ref v :: st) w
    | _ => none
  | .dup2 => match st with
    | .int v :: .ref r :: st => ab_nx (pc + 1) ls (.int v :: .ref r :: .int v :: .ref r :: st) w
    | _ => none
  | .pop => match st with
    | .int _ :: st => ab_nx (pc + 1) ls st w
    | _ => none
  | .ifCond c off => match st with
    | .int x :: st => ab_if (ab_cmp c x 0) pc off ls st w
    | _ => none
  | .if_icmp c off => match st with
    | .int y :: .int x :: st => ab_if (ab_cmp c x y) pc off ls st w
    | _ => none
  | .ifnull off => match st with
    | .null :: st => ab_go pc off ls st w
    | .ref _ :: st => ab_nx (pc + 3) ls st w
    | _ => none
  | .ifnonnull off => match st with
    | .null :: st => ab_nx (pc + 3) ls st w
    | .ref _ :: st => ab_go pc off ls st w
    | _ => none
  | .goto off => ab_go pc off ls st w
  | .tableswitch d lo hi offs => match st with
    | .int x :: st => match decide (x.toInt < lo) || decide (hi < x.toInt) with
      | true => ab_go pc d ls st w
      | false => match offs.toList[(x.toInt - lo).toNat]? with
        | some o => ab_go pc o ls st w
        | none => none
    | _ => none
  | .getfield ix => ab_getf (ic mi) pc ix ls st w
  | .putfield ix => ab_putf mi pc ix ls st w
  | .getstatic ix => match ab_lk (ab_st (ic mi)) ix with
    | some (0, _) => ab_nx (pc + 3) ls (.retAddr 1 :: st) w
    | some (1, _) => ab_nx (pc + 3) ls (.int 1 :: st) w
    | some (2, _) => ab_nx (pc + 3) ls (.retAddr 99 :: st) w
    | _ => none
  | .arraylength => ab_alen X pc ls st w
  | .iaload => ab_iald X pc ls st w
  | .iastore => ab_iast pc ls st w
  | .baload => ab_bald pc ls st w
  | .aaload => ab_aald pc ls st w
  | .aastore => ab_aast pc ls st w
  | .new ix => match ab_lk (ab_nw (ic mi)) ix with
    | some (ci, _) => match Nat.blt ci 7 with
      | true => ab_nx (pc + 3) ls (.ref w.length :: st) (w ++ [.inl (ci, ab_dfl ci)])
      | false => none
    | none => none
  | .newarray .int => match st with
    | .int n :: st => match !decide (n < 0) && Nat.ble n.toNatClampNeg 100000 with
      | true => ab_nx (pc + 2) ls (.ref w.length :: st) (w ++ [.inr (List.replicate n.toNatClampNeg 0)])
      | false => none
    | _ => none
  | .anewarray ix => match ab_lk (ab_na (ic mi)) ix with
    | some (k, _) => match st with
      | .int n :: st => match !decide (n < 0) && Nat.ble n.toNatClampNeg 100000 && (Nat.beq k 7 || Nat.beq k 8) with
        | true => ab_nx (pc + 3) ls (.ref w.length :: st) (w ++ [.inl (k, List.replicate n.toNatClampNeg .null)])
        | false => none
      | _ => none
    | none => none
  | .invokestatic ix => match ab_lk (ab_ac (ic mi)) ix with
    | some _ => ab_cpy pc ls st w
    | none => match ab_lk (ab_mx (ic mi)) ix with
      | some (0, _) => match st with
        | .int y :: .int x :: st => match decide ((st.map Value.category).sum ≤ 8) with
          | true => ab_nx (pc + 3) ls (.int (if x < y then y else x) :: st) w
          | false => none
        | _ => none
      | some (1, _) => match st with
        | .int y :: .int x :: st => match decide ((st.map Value.category).sum ≤ 8) with
          | true => ab_nx (pc + 3) ls (.int (if y < x then y else x) :: st) w
          | false => none
        | _ => none
      | some _ => none
      | none => ab_inv mi 0 pc ix ls st w
  | .invokevirtual ix => ab_inv mi 1 pc ix ls st w
  | .invokespecial ix => match ab_lk (ab_ob (ic mi)) ix with
    | some _ => match st with
      | .ref _ :: st => match decide ((st.map Value.category).sum ≤ 8) with
        | true => ab_nx (pc + 3) ls st w
        | false => none
      | _ => none
    | none => ab_inv mi 2 pc ix ls st w
  | .ireturn => match st with
    | [.int v] => match ab_rfit (ir mi) v with
      | true => some (.inr (.inl (some (.int v), w)))
      | false => none
    | _ => none
  | .lreturn => match st with
    | [.long v] => match decide (ir mi = some .long) with
      | true => some (.inr (.inl (some (.long v), w)))
      | false => none
    | _ => none
  | .areturn => match st with
    | [.ref v] => match ir mi with
      | some (.object _) => some (.inr (.inl (some (.ref v), w)))
      | _ => none
    | [.retAddr v] => match ir mi with
      | some (.object _) => some (.inr (.inl (some (.retAddr v), w)))
      | _ => none
    | [.null] => match ir mi with
      | some (.object _) => some (.inr (.inl (some .null, w)))
      | _ => none
    | _ => none
  | .return_ => match st with
    | [] => match ir mi with
      | none => some (.inr (.inl (none, w)))
      | some _ => none
    | _ => none
  | _ => none
def ab_stp (X : List Int32) (mi : ab_I) (pc : Nat) (ls : List (Option Value)) (st : List Value) (w : ab_W) : Option ab_R := match ab_lk (it_ mi) pc with
  | some (i, _) => ab_ex X mi i pc ls st w
  | none => none
def ab_f1 (v : Value) : List (Option Value) := match v with
  | .long _ => [some v, none]
  | .double _ => [some v, none]
  | _ => [some v]
def ab_ent (L : Nat) (as : List Value) : List (Option Value) :=
  let l := as.flatMap ab_f1
  l ++ List.replicate (L - l.length) none
def ab_run (X : List Int32) : Nat → Nat → Nat → List (Option Value) → List Value → ab_W → Option (Option Value × ab_W)
  | 0, _, _, _, _, _ => none
  | n + 1, k, pc, ls, st, w => match ab_stp X (ab_mi k) pc ls st w with
    | none => none
    | some (.inl (pc', ls', st', w')) => ab_run X n k pc' ls' st' w'
    | some (.inr (.inl r)) => some r
    | some (.inr (.inr (k', as, (pc', ls', st', w')))) => match ab_run X n k' 0 (ab_ent (iL (ab_mi k')) as) [] w' with
      | none => none
      | some (v, w1) => ab_run X n k pc' ls' (v.toList ++ st') w1
theorem ab_mono1 (X : List Int32) : ∀ n k pc ls st w r, ab_run X n k pc ls st w = some r → ab_run X (n + 1) k pc ls st w = some r := by
  intro n
  induction n with
  | zero => intro k pc ls st w r h; cases h
  | succ n ih =>
    intro k pc ls st w r h
    unfold ab_run at h ⊢
    generalize ab_stp X (ab_mi k) pc ls st w = q at h ⊢
    match q, h with
    | some (.inl (pc', ls', st', w')), h => exact ih _ _ _ _ _ _ h
    | some (.inr (.inl r')), h => exact h
    | some (.inr (.inr (k', as, (pc', ls', st', w')))), h =>
      dsimp only at h ⊢
      cases e : ab_run X n k' 0 (ab_ent (iL (ab_mi k')) as) [] w' with
      | none => rw [e] at h; cases h
      | some p =>
        rw [e] at h
        rw [ih _ _ _ _ _ _ e]
        exact ih _ _ _ _ _ _ h
theorem ab_mono (X : List Int32) {n m k pc : Nat} {ls : List (Option Value)} {st : List Value} {w : ab_W} {r : Option Value × ab_W} (h : n ≤ m) (e : ab_run X n k pc ls st w = some r) : ab_run X m k pc ls st w = some r := by
  obtain ⟨d, rfl⟩ := Nat.exists_eq_add_of_le h
  clear h
  induction d with
  | zero => exact e
  | succ d ih => exact ab_mono1 X _ _ _ _ _ _ _ ih
/-- from a place in a method it comes to its end -/
def ab_G (X : List Int32) (k pc : Nat) (ls : List (Option Value)) (st : List Value) (w : ab_W) (v : Option Value) (w' : ab_W) : Prop := ∃ n, ab_run X n k pc ls st w = some (v, w')
/-- a call of a method -/
def ab_M (X : List Int32) (k : Nat) (as : List Value) (w : ab_W) (v : Option Value) (w' : ab_W) : Prop := ab_G X k 0 (ab_ent (iL (ab_mi k)) as) [] w v w'
section AB
variable {X : List Int32} {k k' pc pc' : Nat} {ls ls' : List (Option Value)} {st st' as : List Value} {w w' w1 w2 : ab_W} {v v1 : Option Value}
theorem ab_s (h : ab_stp X (ab_mi k) pc ls st w = some (.inl (pc', ls', st', w'))) (t : ab_G X k pc' ls' st' w' v w2) : ab_G X k pc ls st w v w2 := by
  obtain ⟨n, e⟩ := t
  exact ⟨n + 1, by unfold ab_run; rw [h]; exact e⟩
theorem ab_r (h : ab_stp X (ab_mi k) pc ls st w = some (.inr (.inl (v, w2)))) : ab_G X k pc ls st w v w2 :=
  ⟨1, by unfold ab_run; rw [h]⟩
theorem ab_c (h : ab_stp X (ab_mi k) pc ls st w = some (.inr (.inr (k', as, (pc', ls', st', w'))))) (a : ab_M X k' as w' v1 w1) (t : ab_G X k pc' ls' (v1.toList ++ st') w1 v w2) : ab_G X k pc ls st w v w2 := by
  obtain ⟨n, e⟩ := t
  obtain ⟨m, f⟩ := a
  refine ⟨max n m + 1, ?_⟩
  unfold ab_run
  rw [h]
  dsimp only
  rw [ab_mono X (Nat.le_max_right n m) f]
  exact ab_mono X (Nat.le_max_left n m) e
end AB
