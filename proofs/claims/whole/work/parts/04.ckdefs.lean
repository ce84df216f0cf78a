/-! THE TABLES AGAINST THE CLAIM: decode rows, words by their places -/
def ab_sz : Instr → Nat
  | .bipush _ => 2 | .iload _ => 2 | .lload _ => 2 | .aload _ => 2 | .istore _ => 2 | .astore _ => 2 | .ldc _ => 2 | .newarray _ => 2
  | .sipush _ => 3 | .ldc_w _ => 3 | .ldc2_w _ => 3 | .iinc _ _ => 3 | .ifCond _ _ => 3 | .if_icmp _ _ => 3 | .ifnull _ => 3 | .ifnonnull _ => 3 | .goto _ => 3
  | .getfield _ => 3 | .putfield _ => 3 | .getstatic _ => 3 | .new _ => 3 | .anewarray _ => 3 | .invokestatic _ => 3 | .invokevirtual _ => 3 | .invokespecial _ => 3
  | .tableswitch _ _ _ _ => 0
  | _ => 1
def ab_nm (c : Nat) : String := ab_own.getD c ""
def ab_ck1 (i : ab_I) : Bool := (it_ i).all (fun e => decide (decode (ib i) e.1 = .ok (e.2.1, e.2.2)) && (ab_sz e.2.1 == 0 || e.2.2 == ab_sz e.2.1))
def ab_ck2 (i : ab_I) : Bool :=
  decide (lw_tbl[(ip_ i).1]? = some (.code (iy i) (ib i) (iL i) (ir i))) &&
  decide (lw_tbl[(ip_ i).2.1]? = some (cond (is_ i) (.static (iy i)) (.instanceMethod (iy i)))) &&
  decide (lw_tbl[(ip_ i).2.2.1]? = some (.initialized (iy i).cls)) &&
  ((is_ i || (iy i).name == "<init>") || decide (lw_tbl[(ip_ i).2.2.2]? = some (.selects (iy i).cls (iy i) (iy i)))) &&
  decide ((iy i).cls = ab_nm (ic i)) && decide ((iy i).cls ≠ "java/lang/invoke/MethodHandle" ∧ (iy i).cls ≠ "java/lang/invoke/VarHandle") &&
  decide ((parseMethodDescriptor (iy i).desc).map (fun d => d.parameters.length + cond (is_ i) 0 1) = some (in_ i)) &&
  Jvm.plainName (iy i).cls && (!((iy i).name == "<init>") || decide (ir i = none)) && Nat.ble 1 (ih_ i) && Nat.ble (ih_ i) 11 && Nat.blt (ic i) 13
