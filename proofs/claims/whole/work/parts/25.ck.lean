/-! WHAT AN INSTRUCTION'S ROW OF THE TABLE MUST BE: a check that a program decides. -/
def ms_ck (j pc : Nat) (i : Jvm.ClassFile.Instr) (len : Nat) (x : ms_X) : Bool :=
  match i with
  | .iconst n => decide (len = 1 ∧ x.2.2.1 = .int (Int32.ofInt n))
  | .bipush n => decide (len = 2 ∧ x.2.2.1 = .int (Int8.ofInt n).toInt32)
  | .sipush n => decide (len = 3 ∧ x.2.2.1 = .int (Int16.ofInt n).toInt32)
  | .lconst n => decide (len = 1 ∧ x.2.2.1 = .long (Int64.ofNat n.val))
  | .ldc q => decide (len = 2) && match x.2.2.1 with
    | .int v => ms_has x.1 (.constant (ms_ow j) q v)
    | _ => false
  | .ldc_w q => decide (len = 3) && match x.2.2.1 with
    | .int v => ms_has x.1 (.constant (ms_ow j) q v)
    | _ => false
  | .ldc2_w q => decide (len = 3) && match x.2.2.1 with
    | .long v => ms_has x.1 (.constantLong (ms_ow j) q v)
    | _ => false
  | .getstatic q => decide (len = 3 ∧ (x.1 = 1 ∨ x.1 = 2) ∧ x.2.2.1 = .ref x.1 ∧ ms_nst[x.2.1]? = some (.fieldLinkNest (ms_ow j) q ms_cO (ms_sn x.1) "[I" ms_cO))
  | .iload _ => decide (len = 2)
  | .lload _ => decide (len = 2)
  | .aload _ => decide (len = 2)
  | .istore _ => decide (len = 2)
  | .lstore _ => decide (len = 2)
  | .astore _ => decide (len = 2)
  | .iinc _ _ => decide (len = 3)
  | .goto o => decide (len = 3 ∧ (pc : Int) + o = (x.1 : Int))
  | .ifCond _ o => decide (len = 3 ∧ (pc : Int) + o = (x.1 : Int))
  | .if_icmp _ o => decide (len = 3 ∧ (pc : Int) + o = (x.1 : Int))
  | .tableswitch d lo hi os => decide ((pc : Int) + d = (x.1 : Int) ∧ os.toList.map (fun o => (pc : Int) + o) = x.2.2.2.map (fun (t : Nat) => (t : Int)) ∧ hi - lo + 1 = (os.size : Int))
  | .lookupswitch d ps => decide ((pc : Int) + d = (x.1 : Int) ∧ ps.toList.map (fun q => (pc : Int) + q.2) = x.2.2.2.map (fun (t : Nat) => (t : Int)) ∧ (ps.toList.zip (ps.toList.drop 1)).all (fun (a, next) => a.1 < next.1) = true)
  | .getfield q => decide (len = 3) && match ms_cl[x.1]? with
    | some r => decide (x.2.1 < r.2.2) && ms_has (x.2.2.2.getD 0 0) (.fieldLink (ms_ow j) q (r.2.1 x.2.1).1 (r.2.1 x.2.1).2.1 (r.2.1 x.2.1).2.2.1)
    | none => false
  | .putfield q => decide (len = 3) && match ms_cl[x.1]? with
    | some r => decide (x.2.1 < r.2.2) && ms_has (x.2.2.2.getD 0 0) (.fieldLink (ms_ow j) q (r.2.1 x.2.1).1 (r.2.1 x.2.1).2.1 (r.2.1 x.2.1).2.2.1) && decide ((r.2.1 x.2.1).2.2.2 = false ∨ (ms_ini j = true ∧ (r.2.1 x.2.1).1 = ms_ow j))
    | none => false
  | .newarray t => decide (len = 2 ∧ ((x.1 = 0 ∧ t = .int) ∨ (x.1 = 1 ∧ t = .long)))
  | .anewarray q => decide (len = 3) && ((decide (x.1 = 3) && ms_has (x.2.2.2.getD 0 0) (.classLink (ms_ow j) q ms_cM)) || (decide (x.1 = 4) && ms_has (x.2.2.2.getD 0 0) (.classLink (ms_ow j) q ms_cP)))
  | .multianewarray q n => decide (len = 4 ∧ n = 2 ∧ x.1 = 2) && ms_has (x.2.2.2.getD 0 0) (.classLink (ms_ow j) q "[[I")
  | .new q => decide (len = 3) && match ms_cl[x.1]? with
    | some r => decide (x.2.1 = 0 ∧ (ms_df x.1).length = r.2.2) && ms_has (x.2.2.2.getD 0 0) (.classLink (ms_ow j) q r.1)
    | none => false
  | .invokespecial q => decide (len = 3 ∧ x.2.1 = 2 ∧ 1 ≤ ms_fr j ∧ 20 ≤ ms_lo j) && ms_has (x.2.2.2.getD 0 0) (.methodLink (ms_ow j) q Lib.objectInit)
  | .invokestatic q => decide (len = 3 ∧ x.2.1 = 1 ∧ 1 ≤ ms_fr j ∧ 26 ≤ ms_lo j) && ms_has (x.2.2.2.getD 0 0) (.methodLink (ms_ow j) q arraycopyName)
  | _ => decide (len = 1)
