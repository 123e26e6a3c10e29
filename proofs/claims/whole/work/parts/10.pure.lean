/-! THE PURE MACHINE. A method is run on a memory of numbered cells: 'ms_ev' with fuel, 'ms_G' without. The tables that it reads (ms_at and its like) are made by a program, out of JAVAP.txt (part 05). -/
-- a cell: an array (its kind, its length and contents), or an object (the number of its kind, its fields)
abbrev ms_E : Type := (Nat × vp_A) ⊕ (Nat × List Value)
-- a memory: how many cells, how many slots have been laid; has the method that runs written anything; the cells
abbrev ms_M : Type := Nat × Nat × Bool × (Nat → ms_E)
-- a place in a run: pc, locals, operand stack, memory
abbrev ms_N : Type := Nat × List Value × List Value × ms_M
-- an end: it returned, or threw an exception of that kind; the memory
abbrev ms_R : Type := (Option Value ⊕ Nat) × ms_M
def ms_up (M : Nat → ms_E) (k : Nat) (e : ms_E) : Nat → ms_E := fun j => if j = k then e else M j
def ms_wr (σ : ms_M) (k : Nat) (e : ms_E) : ms_M := (σ.1, σ.2.1, true, ms_up σ.2.2.2 k e)
def ms_nw (σ : ms_M) (z : Nat) (e : ms_E) : ms_M := (σ.1 + 1, σ.2.1 + z, true, ms_up σ.2.2.2 σ.1 e)
-- locals: 'null' says that nothing is known
def ms_kill (L : List Value) : Nat → List Value
  | 0 => L
  | i + 1 => match L.getD i .null with
    | .long _ => L.set i .null
    | .double _ => L.set i .null
    | _ => L
def ms_s1 (L : List Value) (i : Nat) (v : Value) : List Value := (ms_kill L i).set i v
def ms_s2 (L : List Value) (i : Nat) (v : Value) : List Value := ((ms_kill L i).set (i + 1) .null).set i v
def ms_in (i : Int32) (n : Nat) : Bool := decide (0 ≤ i.toInt ∧ i.toInt < (n : Int))
def ms_br (c : Jvm.ClassFile.Cond) (x y : Int32) (a b : Nat) : Nat := match c with
  | .eq => if x = y then a else b
  | .ne => if x = y then b else a
  | .lt => if x < y then a else b
  | .ge => if y ≤ x then a else b
  | .gt => if y < x then a else b
  | .le => if x ≤ y then a else b
def ms_lk : List (Int × Int) → List Nat → Nat → Int → Nat
  | (k, _) :: r, t :: ts, d, a => if a = k then t else ms_lk r ts d a
  | _, _, d, _ => d
def ms_fit : FieldType → Value → Bool
  | .int, .int _ => true
  | .long, .long _ => true
  | .boolean, .int z => decide (z = 0 ∨ z = 1)
  | .object _, .ref _ => true
  | .array _, .ref _ => true
  | _, _ => false
def ms_ldi (L S : List Value) (σ : ms_M) (k pc : Nat) : Option ms_N := match L.getD k .null with
  | .int v => some (pc, L, .int v :: S, σ)
  | _ => none
def ms_ldl (L S : List Value) (σ : ms_M) (k pc : Nat) : Option ms_N := match L.getD k .null with
  | .long v => some (pc, L, .long v :: S, σ)
  | _ => none
def ms_lda (L S : List Value) (σ : ms_M) (k pc : Nat) : Option ms_N := match L.getD k .null with
  | .ref v => some (pc, L, .ref v :: S, σ)
  | _ => none
def ms_sti (L S : List Value) (σ : ms_M) (k pc : Nat) : Option ms_N := match S with
  | .int v :: r => if k < L.length then some (pc, ms_s1 L k (.int v), r, σ) else none
  | _ => none
def ms_stl (L S : List Value) (σ : ms_M) (k pc : Nat) : Option ms_N := match S with
  | .long v :: r => if k + 1 < L.length then some (pc, ms_s2 L k (.long v), r, σ) else none
  | _ => none
def ms_sta (L S : List Value) (σ : ms_M) (k pc : Nat) : Option ms_N := match S with
  | .ref v :: r => if k < L.length then some (pc, ms_s1 L k (.ref v), r, σ) else none
  | _ => none
def ms_ii (f : Int32 → Int32 → Int32) (pc : Nat) (L S : List Value) (σ : ms_M) : Option ms_N := match S with
  | .int y :: .int x :: r => some (pc, L, .int (f x y) :: r, σ)
  | _ => none
def ms_id (f : Int32 → Int32 → Int32) (pc : Nat) (L S : List Value) (σ : ms_M) : Option ms_N := match S with
  | .int y :: .int x :: r => if y = 0 then none else some (pc, L, .int (f x y) :: r, σ)
  | _ => none
def ms_ll (f : Int64 → Int64 → Int64) (pc : Nat) (L S : List Value) (σ : ms_M) : Option ms_N := match S with
  | .long y :: .long x :: r => some (pc, L, .long (f x y) :: r, σ)
  | _ => none
def ms_li (f : Int64 → Int32 → Int64) (pc : Nat) (L S : List Value) (σ : ms_M) : Option ms_N := match S with
  | .int y :: .long x :: r => some (pc, L, .long (f x y) :: r, σ)
  | _ => none
-- what 'newarray' and 'anewarray' lay
def ms_arr (k n : Nat) : vp_A := match k with
  | 0 => (n, .inl (fun _ => 0))
  | 1 => (n, .inr (.inl (fun _ => 0)))
  | _ => (n, .inr (.inr (.inr (.inr (fun _ => none)))))
-- the rows of a new int[c1][c2], from cell q on
def ms_rows (M : Nat → ms_E) (q n : Nat) : Nat → Nat → ms_E
  | 0 => M
  | k + 1 => ms_up (ms_rows M q n k) (q + k) (.inl (0, ms_arr 0 n))
def ms_st1 (i : Jvm.ClassFile.Instr) (len : Nat) (x : ms_X) (pc : Nat) (L S : List Value) (σ : ms_M) : Option ms_N :=
  match i with
  | .iconst _ => some (pc + len, L, x.2.2.1 :: S, σ)
  | .bipush _ => some (pc + len, L, x.2.2.1 :: S, σ)
  | .sipush _ => some (pc + len, L, x.2.2.1 :: S, σ)
  | .lconst _ => some (pc + len, L, x.2.2.1 :: S, σ)
  | .ldc _ => some (pc + len, L, x.2.2.1 :: S, σ)
  | .ldc2_w _ => some (pc + len, L, x.2.2.1 :: S, σ)
  | .getstatic _ => some (pc + len, L, x.2.2.1 :: S, σ)
  | .iload k => ms_ldi L S σ k (pc + len)
  | .iload_n k => ms_ldi L S σ k.val (pc + len)
  | .lload k => ms_ldl L S σ k (pc + len)
  | .lload_n k => ms_ldl L S σ k.val (pc + len)
  | .aload k => ms_lda L S σ k (pc + len)
  | .aload_n k => ms_lda L S σ k.val (pc + len)
  | .istore k => ms_sti L S σ k (pc + len)
  | .istore_n k => ms_sti L S σ k.val (pc + len)
  | .lstore k => ms_stl L S σ k (pc + len)
  | .lstore_n k => ms_stl L S σ k.val (pc + len)
  | .astore k => ms_sta L S σ k (pc + len)
  | .astore_n k => ms_sta L S σ k.val (pc + len)
  | .iinc k n => match L.getD k .null with
    | .int v => if k < L.length then some (pc + len, ms_s1 L k (.int (v + Int32.ofInt n)), S, σ) else none
    | _ => none
  | .iadd => ms_ii (fun x y => x + y) (pc + len) L S σ
  | .isub => ms_ii (fun x y => x - y) (pc + len) L S σ
  | .imul => ms_ii (fun x y => x * y) (pc + len) L S σ
  | .iand => ms_ii (fun x y => x &&& y) (pc + len) L S σ
  | .ior => ms_ii (fun x y => x ||| y) (pc + len) L S σ
  | .ixor => ms_ii (fun x y => x ^^^ y) (pc + len) L S σ
  | .ishl => ms_ii (fun x y => x <<< (y &&& 31)) (pc + len) L S σ
  | .ishr => ms_ii (fun x y => x >>> (y &&& 31)) (pc + len) L S σ
  | .iushr => ms_ii (fun x y => (x.toUInt32 >>> (y.toUInt32 &&& Int32.toUInt32 31)).toInt32) (pc + len) L S σ
  | .idiv => ms_id (fun x y => x / y) (pc + len) L S σ
  | .irem => ms_id (fun x y => x - x / y * y) (pc + len) L S σ
  | .ineg => match S with
    | .int x :: r => some (pc + len, L, .int (-x) :: r, σ)
    | _ => none
  | .ladd => ms_ll (fun x y => x + y) (pc + len) L S σ
  | .lsub => ms_ll (fun x y => x - y) (pc + len) L S σ
  | .lmul => ms_ll (fun x y => x * y) (pc + len) L S σ
  | .land => ms_ll (fun x y => x &&& y) (pc + len) L S σ
  | .lor => ms_ll (fun x y => x ||| y) (pc + len) L S σ
  | .lshl => ms_li (fun x y => x <<< (y.toInt64 &&& 63)) (pc + len) L S σ
  | .lshr => ms_li (fun x y => x >>> (y.toInt64 &&& 63)) (pc + len) L S σ
  | .lushr => ms_li (fun x y => (x.toUInt64 >>> (y.toInt64.toUInt64 &&& Int64.toUInt64 63)).toInt64) (pc + len) L S σ
  | .lcmp => match S with
    | .long y :: .long x :: r => some (pc + len, L, .int (lg_cmp x y) :: r, σ)
    | _ => none
  | .i2l => match S with
    | .int x :: r => some (pc + len, L, .long x.toInt64 :: r, σ)
    | _ => none
  | .l2i => match S with
    | .long x :: r => some (pc + len, L, .int x.toInt32 :: r, σ)
    | _ => none
  | .dup => match S with
    | v :: r => if v.category = 1 then some (pc + len, L, v :: v :: r, σ) else none
    | _ => none
  | .dup2 => match S with
    | v :: w :: r => if v.category = 1 ∧ w.category = 1 then some (pc + len, L, v :: w :: v :: w :: r, σ) else none
    | _ => none
  | .pop => match S with
    | v :: r => if v.category = 1 then some (pc + len, L, r, σ) else none
    | _ => none
  | .pop2 => match S with
    | v :: r => if v.category = 2 then some (pc + len, L, r, σ) else none
    | _ => none
  | .ldc_w _ => some (pc + len, L, x.2.2.1 :: S, σ)
  | .goto _ => some (x.1, L, S, σ)
  | .ifCond c _ => match S with
    | .int a :: r => some (ms_br c a 0 x.1 (pc + len), L, r, σ)
    | _ => none
  | .if_icmp c _ => match S with
    | .int b :: .int a :: r => some (ms_br c a b x.1 (pc + len), L, r, σ)
    | _ => none
  | .tableswitch _ lo hi _ => match S with
    | .int a :: r => some (if a.toInt < lo ∨ hi < a.toInt then x.1 else x.2.2.2.getD (a.toInt - lo).toNat 0, L, r, σ)
    | _ => none
  | .lookupswitch _ ps => match S with
    | .int a :: r => some (ms_lk ps.toList x.2.2.2 x.1 a.toInt, L, r, σ)
    | _ => none
  | .getfield _ => match S with
    | .ref a :: r => match σ.2.2.2 a with
      | .inr (ci, fs) => if ci = x.1 then (fs[x.2.1]?).map (fun v => (pc + len, L, v :: r, σ)) else none
      | _ => none
    | _ => none
  | .putfield _ => match S with
    | v :: .ref a :: r => match σ.2.2.2 a with
      | .inr (ci, fs) => if ci = x.1 ∧ x.2.1 < fs.length ∧ ms_fit (ms_ft ci x.2.1) v = true then some (pc + len, L, r, ms_wr σ a (.inr (ci, fs.set x.2.1 v))) else none
      | _ => none
    | _ => none
  | .iaload => match S with
    | .int i :: .ref a :: r => match σ.2.2.2 a with
      | .inl (t, n, .inl f) => if (t = 0 ∨ t = 5) ∧ ms_in i n = true then some (pc + len, L, .int (f i.toNatClampNeg) :: r, σ) else none
      | _ => none
    | _ => none
  | .laload => match S with
    | .int i :: .ref a :: r => match σ.2.2.2 a with
      | .inl (t, n, .inr (.inl f)) => if t = 1 ∧ ms_in i n = true then some (pc + len, L, .long (f i.toNatClampNeg) :: r, σ) else none
      | _ => none
    | _ => none
  | .aaload => match S with
    | .int i :: .ref a :: r => match σ.2.2.2 a with
      | .inl (t, n, .inr (.inr (.inr (.inr f)))) => if 2 ≤ t ∧ ms_in i n = true then (f i.toNatClampNeg).map (fun b => (pc + len, L, .ref b :: r, σ)) else none
      | _ => none
    | _ => none
  | .iastore => match S with
    | .int v :: .int i :: .ref a :: r => match σ.2.2.2 a with
      | .inl (0, n, .inl f) => if ms_in i n = true then some (pc + len, L, r, ms_wr σ a (.inl (0, n, .inl (upd f i.toNatClampNeg v)))) else none
      | _ => none
    | _ => none
  | .lastore => match S with
    | .long v :: .int i :: .ref a :: r => match σ.2.2.2 a with
      | .inl (1, n, .inr (.inl f)) => if ms_in i n = true then some (pc + len, L, r, ms_wr σ a (.inl (1, n, .inr (.inl (vp_updL f i.toNatClampNeg v))))) else none
      | _ => none
    | _ => none
  | .aastore => match S with
    | .ref v :: .int i :: .ref a :: r => match σ.2.2.2 a, σ.2.2.2 v with
      | .inl (k, n, .inr (.inr (.inr (.inr f)))), .inr (ci, _) => if ms_in i n = true ∧ ms_el k = some ci then some (pc + len, L, r, ms_wr σ a (.inl (k, n, .inr (.inr (.inr (.inr (va_up f i.toNatClampNeg (some v)))))))) else none
      | _, _ => none
    | _ => none
  | .arraylength => match S with
    | .ref a :: r => match σ.2.2.2 a with
      | .inl (_, n, _) => some (pc + len, L, .int (nI n) :: r, σ)
      | _ => none
    | _ => none
  | .newarray _ => match S with
    | .int n :: r => if ms_in n 5000 = true then some (pc + len, L, .ref σ.1 :: r, ms_nw σ n.toNatClampNeg (.inl (x.1, ms_arr x.1 n.toNatClampNeg))) else none
    | _ => none
  | .anewarray _ => match S with
    | .int n :: r => if ms_in n 5000 = true then some (pc + len, L, .ref σ.1 :: r, ms_nw σ n.toNatClampNeg (.inl (x.1, ms_arr x.1 n.toNatClampNeg))) else none
    | _ => none
  | .multianewarray _ _ => match S with
    | .int n2 :: .int n1 :: r => if ms_in n1 100 = true ∧ ms_in n2 100 = true ∧ 0 < n1.toNatClampNeg then
        some (pc + len, L, .ref σ.1 :: r, (σ.1 + 1 + n1.toNatClampNeg, σ.2.1 + n1.toNatClampNeg + n1.toNatClampNeg * n2.toNatClampNeg, true,
          ms_up (ms_rows σ.2.2.2 (σ.1 + 1) n2.toNatClampNeg n1.toNatClampNeg) σ.1 (.inl (2, n1.toNatClampNeg, .inr (.inr (.inr (.inr (fun j => some (σ.1 + 1 + j)))))))))
      else none
    | _ => none
  | .new _ => some (pc + len, L, .ref σ.1 :: S, ms_nw σ (ms_df x.1).length (.inr (x.1, ms_df x.1)))
  | .invokespecial _ => match S with
    | .ref _ :: r => if (r.map fun v => v.category).sum ≤ 8 then some (pc + len, L, r, σ) else none
    | _ => none
  | .invokestatic _ => match S with
    | .int n :: .int dp :: .ref b :: .int sp :: .ref a :: r => match σ.2.2.2 a, σ.2.2.2 b with
      | .inl (0, n0, .inl f), .inl (0, n1, .inl g) => if 0 ≤ sp.toInt ∧ 0 ≤ dp.toInt ∧ 0 ≤ n.toInt ∧ sp.toNatClampNeg + n.toNatClampNeg ≤ n0 ∧ dp.toNatClampNeg + n.toNatClampNeg ≤ n1 ∧ (r.map fun v => v.category).sum ≤ 8 then
          some (pc + len, L, r, ms_wr σ b (.inl (0, n1, .inl (va_cpy f g sp.toNatClampNeg dp.toNatClampNeg n.toNatClampNeg)))) else none
      | .inl (1, n0, .inr (.inl f)), .inl (1, n1, .inr (.inl g)) => if 0 ≤ sp.toInt ∧ 0 ≤ dp.toInt ∧ 0 ≤ n.toInt ∧ sp.toNatClampNeg + n.toNatClampNeg ≤ n0 ∧ dp.toNatClampNeg + n.toNatClampNeg ≤ n1 ∧ (r.map fun v => v.category).sum ≤ 8 then
          some (pc + len, L, r, ms_wr σ b (.inl (1, n1, .inr (.inl (va_cpy f g sp.toNatClampNeg dp.toNatClampNeg n.toNatClampNeg))))) else none
      | _, _ => none
    | _ => none
  | _ => none
-- the locals of a method at its entry
def ms_ents : List Value → List Value
  | [] => []
  | .long v :: r => .long v :: .null :: ms_ents r
  | .double v :: r => .double v :: .null :: ms_ents r
  | v :: r => v :: ms_ents r
def ms_ent (c : Nat) (as : List Value) : List Value := ms_ents as ++ List.replicate (ms_mx c - (ms_ents as).length) .null
-- a call can be made: its values are there; little lies under them; the receiver is of the method's kind
def ms_can (c : Nat) (S : List Value) (σ : ms_M) : Bool :=
  decide (ms_na c ≤ S.length) && decide (((S.drop (ms_na c)).map fun v => v.category).sum ≤ 8) && decide ((ms_ents (S.take (ms_na c)).reverse).length ≤ ms_mx c) &&
  match ms_rc c with
  | none => !ms_ini c || match (S.take (ms_na c)).reverse.head? with
    | some (.ref _) => true
    | _ => false
  | some ci => match (S.take (ms_na c)).reverse.head? with
    | some (.ref a) => match σ.2.2.2 a with
      | .inr (cj, _) => decide (cj = ci)
      | _ => false
    | _ => false
-- what a method may return
def ms_rok : Option FieldType → Option Value → Bool
  | none, none => true
  | some (.object _), some (.ref _) => true
  | some (.array _), some (.ref _) => true
  | some .int, some (.int _) => true
  | some .long, some (.long _) => true
  | some .boolean, some (.int z) => decide (z = 0 ∨ z = 1)
  | _, _ => false
-- what an instruction is: 0 as any, 1 a call, 2 a return, 3 a new exception that is thrown
def ms_kd (q : ms_I) : Nat := match q.1 with
  | .ireturn => 2
  | .lreturn => 2
  | .areturn => 2
  | .return_ => 2
  | .invokevirtual _ => 1
  | .invokestatic _ => if q.2.2.2.1 = 0 then 1 else 0
  | .invokespecial _ => if q.2.2.2.1 = 0 then 1 else 0
  | .new _ => if q.2.2.2.1 = 0 then 0 else 3
  | _ => 0
def ms_call (rec : Nat → Nat → List Value → List Value → ms_M → Option ms_R) (j pc c : Nat) (L S : List Value) (σ : ms_M) : Option ms_R :=
  if ms_can c S σ = true then
    match rec c 0 (ms_ent c (S.take (ms_na c)).reverse) [] (σ.1, σ.2.1, false, σ.2.2.2) with
    | some (.inl v, τ) => rec j (pc + 3) L (v.toList ++ S.drop (ms_na c)) (τ.1, τ.2.1, σ.2.2.1 || τ.2.2.1, τ.2.2.2)
    | some (.inr k, τ) => match ms_hd j pc k with
      | some h => rec j h L [.ref (τ.1 - 1)] (τ.1, τ.2.1, true, τ.2.2.2)
      | none => none
    | none => none
  else none
def ms_ret (j : Nat) (S : List Value) (σ : ms_M) : Option ms_R := match S with
  | [] => if ms_rok (ms_rt j) none = true then some (.inl none, σ) else none
  | [v] => if ms_rok (ms_rt j) (some v) = true then some (.inl (some v), σ) else none
  | _ => none
def ms_thr (k : Nat) (S : List Value) (σ : ms_M) : Option ms_R := match S with
  | [] => if σ.2.2.1 = false then some (.inr k, ms_nw σ 6 (.inr (99, []))) else none
  | _ => none
def ms_stp (rec : Nat → Nat → List Value → List Value → ms_M → Option ms_R) (j pc : Nat) (q : ms_I) (L S : List Value) (σ : ms_M) : Option ms_R :=
  match ms_kd q with
  | 0 => match ms_st1 q.1 q.2.1 q.2.2 pc L S σ with
    | some y => rec j y.1 y.2.1 y.2.2.1 y.2.2.2
    | none => none
  | 1 => ms_call rec j pc q.2.2.1 L S σ
  | 2 => ms_ret j S σ
  | _ => ms_thr q.2.2.1 S σ
def ms_ev : Nat → Nat → Nat → List Value → List Value → ms_M → Option ms_R
  | 0, _, _, _, _, _ => none
  | f + 1, j, pc, L, S, σ => match ms_at j pc with
    | none => none
    | some q => ms_stp (ms_ev f) j pc q L S σ
theorem ms_call_mono {g h : Nat → Nat → List Value → List Value → ms_M → Option ms_R} (H : ∀ a b c d e r, g a b c d e = some r → h a b c d e = some r) {j pc c : Nat} {L S : List Value} {σ : ms_M} {r : ms_R} (k : ms_call g j pc c L S σ = some r) : ms_call h j pc c L S σ = some r := by
  unfold ms_call at k ⊢
  split at k
  · rename_i hc
    rw [if_pos hc]
    split at k
    · rename_i v τ e
      rw [H _ _ _ _ _ _ e]
      exact H _ _ _ _ _ _ k
    · rename_i x τ e
      rw [H _ _ _ _ _ _ e]
      dsimp only
      split at k
      · rename_i t e2
        first
          | exact H _ _ _ _ _ _ k
          | (rw [e2]; exact H _ _ _ _ _ _ k)
      · cases k
    · cases k
  · cases k
theorem ms_stp_mono {g h : Nat → Nat → List Value → List Value → ms_M → Option ms_R} (H : ∀ a b c d e r, g a b c d e = some r → h a b c d e = some r) {j pc : Nat} {q : ms_I} {L S : List Value} {σ : ms_M} {r : ms_R} (k : ms_stp g j pc q L S σ = some r) : ms_stp h j pc q L S σ = some r := by
  unfold ms_stp at k ⊢
  split at k
  · split at k
    · exact H _ _ _ _ _ _ k
    · cases k
  · exact ms_call_mono H k
  · exact k
  · exact k
theorem ms_ev_succ (f : Nat) : ∀ j pc L S σ r, ms_ev f j pc L S σ = some r → ms_ev (f + 1) j pc L S σ = some r := by
  induction f with
  | zero => intro j pc L S σ r h; cases h
  | succ f ih =>
    intro j pc L S σ r h
    rw [ms_ev] at h ⊢
    split at h
    · cases h
    · exact ms_stp_mono ih h
theorem ms_ev_le {f g : Nat} (hfg : f ≤ g) {j pc : Nat} {L S : List Value} {σ : ms_M} {r : ms_R} (h : ms_ev f j pc L S σ = some r) : ms_ev g j pc L S σ = some r := by
  induction hfg with
  | refl => exact h
  | step _ ih => exact ms_ev_succ _ _ _ _ _ _ _ ih
/-- the run without fuel -/
noncomputable def ms_G (j pc : Nat) (L S : List Value) (σ : ms_M) : Option ms_R :=
  letI := Classical.propDecidable (∃ r f, ms_ev f j pc L S σ = some r)
  if h : ∃ r f, ms_ev f j pc L S σ = some r then some (Classical.choose h) else none
theorem ms_G_iff {j pc : Nat} {L S : List Value} {σ : ms_M} {r : ms_R} : ms_G j pc L S σ = some r ↔ ∃ f, ms_ev f j pc L S σ = some r := by
  unfold ms_G
  constructor
  · intro h
    split at h
    · rename_i hx
      cases h
      exact Classical.choose_spec hx
    · cases h
  · rintro ⟨f, hf⟩
    have hx : ∃ r f, ms_ev f j pc L S σ = some r := ⟨r, f, hf⟩
    rw [dif_pos hx]
    obtain ⟨g, hg⟩ := Classical.choose_spec hx
    have h1 := ms_ev_le (Nat.le_max_left f g) hf
    have h2 := ms_ev_le (Nat.le_max_right f g) hg
    rw [h1] at h2
    exact h2.symm
theorem ms_G_of {f j pc : Nat} {L S : List Value} {σ : ms_M} {r : ms_R} (h : ms_ev f j pc L S σ = some r) : ms_G j pc L S σ = some r := ms_G_iff.mpr ⟨f, h⟩
theorem ms_call_cont {j pc c : Nat} {L S : List Value} {σ : ms_M} {r : ms_R} (k : ms_call ms_G j pc c L S σ = some r) : ∃ f, ms_call (ms_ev f) j pc c L S σ = some r := by
  unfold ms_call at k
  split at k
  · rename_i hc
    split at k
    · rename_i v τ e
      obtain ⟨f1, h1⟩ := ms_G_iff.mp e
      obtain ⟨f2, h2⟩ := ms_G_iff.mp k
      refine ⟨max f1 f2, ?_⟩
      unfold ms_call
      rw [if_pos hc, ms_ev_le (Nat.le_max_left f1 f2) h1]
      exact ms_ev_le (Nat.le_max_right f1 f2) h2
    · rename_i x τ e
      obtain ⟨f1, h1⟩ := ms_G_iff.mp e
      split at k
      · rename_i t e2
        obtain ⟨f2, h2⟩ := ms_G_iff.mp k
        refine ⟨max f1 f2, ?_⟩
        unfold ms_call
        rw [if_pos hc, ms_ev_le (Nat.le_max_left f1 f2) h1]
        dsimp only
        first
          | exact ms_ev_le (Nat.le_max_right f1 f2) h2
          | (rw [e2]; exact ms_ev_le (Nat.le_max_right f1 f2) h2)
      · cases k
    · cases k
  · cases k
theorem ms_stp_cont {j pc : Nat} {q : ms_I} {L S : List Value} {σ : ms_M} {r : ms_R} (k : ms_stp ms_G j pc q L S σ = some r) : ∃ f, ms_stp (ms_ev f) j pc q L S σ = some r := by
  unfold ms_stp at k ⊢
  split at k
  · split at k
    · exact ms_G_iff.mp k
    · cases k
  · exact ms_call_cont k
  · exact ⟨0, k⟩
  · exact ⟨0, k⟩
/-- one instruction of a run -/
theorem ms_G_at {j pc : Nat} {q : ms_I} (hq : ms_at j pc = some q) (L S : List Value) (σ : ms_M) : ms_G j pc L S σ = ms_stp ms_G j pc q L S σ := by
  apply Option.ext
  intro r
  constructor
  · intro h
    obtain ⟨f, hf⟩ := ms_G_iff.mp h
    cases f with
    | zero => cases hf
    | succ f =>
      rw [ms_ev, hq] at hf
      exact ms_stp_mono (fun a b c d e r h => ms_G_of h) hf
  · intro h
    obtain ⟨f, hf⟩ := ms_stp_cont h
    refine ms_G_of (f := f + 1) ?_
    rw [ms_ev, hq]
    exact hf
