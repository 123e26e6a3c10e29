/-! THE CHECK OF EVERY ROW OF THE CODE TABLES. -/
-- what a program decides of a call
def ms_lnk (j q k : Nat) (t : List Nat) : Bool := if t.getD 0 0 = 0 then ms_has (t.getD 1 0) (.methodLink (ms_ow j) q (ms_y k)) else decide (ms_nst[t.getD 1 0]? = some (.methodLinkNest (ms_ow j) q (ms_y k) ms_cO))
def ms_ckc (j : Nat) (i : Jvm.ClassFile.Instr) (len : Nat) (x : ms_X) : Bool :=
  decide (len = 3 ∧ x.1 < 150 ∧ x.1 ≠ ms_law ∧ ms_fr x.1 + 1 ≤ ms_fr j ∧ 8 + (ms_mx x.1 + 11) + ms_lo x.1 ≤ ms_lo j) && match i with
  | .invokestatic q => ms_st x.1 && ms_lnk j q x.1 x.2.2.2
  | .invokevirtual q => (ms_rc x.1).isSome && !ms_st x.1 && decide (x.2.2.2.getD 0 0 = 0) && ms_lnk j q x.1 x.2.2.2
  | .invokespecial q => ms_ini x.1 && !ms_st x.1 && decide ((ms_rc x.1).isNone) && decide (ms_hs x.1 = [] ∧ ms_rt x.1 = none) && ms_lnk j q x.1 x.2.2.2
  | _ => false
def ms_ckr (j : Nat) (i : Jvm.ClassFile.Instr) (len : Nat) : Bool := decide (len = 1) && match i, ms_rt j with
  | .ireturn, some .int => true
  | .ireturn, some .boolean => true
  | .lreturn, some .long => true
  | .areturn, some (.object _) => true
  | .areturn, some (.array _) => true
  | .return_, none => true
  | _, _ => false
def ms_xn (k : Nat) : String := if k = 0 then "java/lang/IllegalArgumentException" else "java/lang/IllegalStateException"
def ms_ckx (j pc : Nat) (i : Jvm.ClassFile.Instr) (len : Nat) (x : ms_X) : Bool := match i with
  | .new q => decide (len = 3 ∧ x.1 < 2 ∧ 6 ≤ ms_fr j ∧ 81 ≤ ms_lo j ∧ ms_ow j = ms_cO ∧ ms_hs j = [] ∧ decode (ms_by j) (pc + 3) = .ok (.dup, 1) ∧ decode (ms_by j) (pc + 4) = .ok (.invokespecial (x.2.2.2.getD 1 0), 3) ∧ decode (ms_by j) (pc + 7) = .ok (.athrow, 1) ∧ x.2.2.2.getD 1 0 = (if x.1 = 0 then 41 else 61)) && ms_has (x.2.2.2.getD 0 0) (.classLink (ms_ow j) q (ms_xn x.1))
  | _ => false
def ms_ckA (j pc : Nat) (q : ms_I) : Bool := decide (decode (ms_by j) pc = .ok (q.1, q.2.1)) && match ms_kd q with
  | 0 => ms_ck j pc q.1 q.2.1 q.2.2
  | 1 => ms_ckc j q.1 q.2.1 q.2.2
  | 2 => ms_ckr j q.1 q.2.1
  | _ => ms_ckx j pc q.1 q.2.1 q.2.2
theorem ms_xini {k : Nat} (h : k < 2) : Cond.initialized (ms_xn k) ∈ ms_ws := by
  match k, h with
  | 0, _ => exact ms_has_in (i := 66) (by decide +kernel)
  | 1, _ => exact ms_has_in (i := 68) (by decide +kernel)
theorem ms_xfit {k : Nat} (h : k < 2) : Bundle.fit (ms_xn k) = true := by
  match k, h with
  | 0, _ => decide +kernel
  | 1, _ => decide +kernel
