/-! SETS OF PHONES; SHARES. -/
def ms_bit (x : Int32) (u : Nat) : Bool := decide (mU x / 2 ^ u % 2 = 1)
def ms_pw (b e : Nat) : Nat := b ^ e % 2305843009213693951
theorem ms_pw_lt (b e : Nat) : ms_pw b e < 2305843009213693951 := Nat.mod_lt _ (by decide)
theorem ms_pw_mod (b e : Nat) : ms_pw (b % 2305843009213693951) e = ms_pw b e := by
  unfold ms_pw
  rw [← Nat.pow_mod]
theorem sb_1 {x : Int32} {u : Nat} (hu : u < 32) : (x >>> (nI u &&& 31)) &&& nI 1 = (x.toUInt32 >>> ((nI u).toUInt32 &&& Int32.toUInt32 31)).toInt32 &&& nI 1 := by
  apply b_ext
  intro i hi
  rw [b_and, b_and, b_sshr u hu x hi, b_ushr u hu x i]
  by_cases h0 : i = 0
  · subst h0
    rw [if_pos (by omega)]
  · have : bt (nI 1) i = false := by
      have key : ∀ i, i < 32 → i ≠ 0 → bt (nI 1) i = false := by decide
      exact key i hi h0
    rw [this, Bool.and_false, Bool.and_false]
theorem md_2 (n : Nat) : (n % 2 = 1) = ¬ (n % 2 = 0) := by
  apply propext
  omega
theorem md_hor (A X Y Z p : Nat) : ((A % p * X) % p * Y + Z) % p = (A * X * Y + Z) % p := by
  rw [Nat.add_mod, Nat.mod_mul_mod, Nat.mul_assoc, Nat.mod_mul_mod, ← Nat.mul_assoc, ← Nat.add_mod]
section Sets
variable {q : Nat × Nat} {w : Bool} {I : ms_i} {J : ms_j} {σ : ms_M}
theorem sp_22w {a b : Nat} (ha : a < 2305843009213693951) (hb : b < 2305843009213693952) : ms_G 22 0 [.long (lN a), .null, .long (lN b), .null, .null, .null, .null] [] (ms_Z q false I J) = some (.inl (some (.long (lN (ms_pw a b)))), ms_Z q false I J) := sp_22 ha hb
theorem sp_91w {x e : Nat} (hx : x < 2305843009213693951) (he : e < 2305843009213693952) : ms_G 91 0 [.long (lN x), .null, .long (lN e), .null, .null, .null, .null, .null, .null] [] (ms_Z q false I J) = some (.inl (some (.long (lN (ms_pw x e)))), ms_Z q false I J) := sp_91 hx he
theorem sp_15 (x : Int32) {u : Nat} (hu : u < 32) : ms_G 15 0 [.int x, .int (nI u)] [] σ = some (.inl (some (.int (ms_b (ms_bit x u)))), σ) := by
  have hl := mU_lt x
  have hd : mU x / 2 ^ u ≤ mU x := Nat.div_le_self _ _
  simp (disch := omega) only [↓mi_15_0, ↓mi_15_1, ↓mi_15_2, ↓mi_15_3, ↓mi_15_4, ↓mi_15_5, ↓mi_15_8, ↓mi_15_9, ↓mi_15_12, ↓mi_15_13, ↓mi_15_13_1, ↓mi_15_13_b, na_ushrU, na_a1, na_eq]
  unfold ms_bit
  by_cases h : mU x / 2 ^ u % 2 = 0
  · rw [if_pos h, decide_eq_false (by omega)]
    rfl
  · rw [if_neg h, decide_eq_true (by omega)]
    rfl
theorem sp_42 (x : Int32) {u : Nat} (hu : u < 32) : ms_G 42 0 [.int x, .int (nI u)] [] σ = some (.inl (some (.int (ms_b (ms_bit x u)))), σ) := by
  have hl := mU_lt x
  have hd : mU x / 2 ^ u ≤ mU x := Nat.div_le_self _ _
  simp (disch := omega) only [↓mi_42_0, ↓mi_42_1, ↓mi_42_2, ↓mi_42_3, ↓mi_42_4, ↓mi_42_5, ↓mi_42_6, ↓mi_42_9, ↓mi_42_10, ↓mi_42_13, ↓mi_42_14, ↓mi_42_14_1, ↓mi_42_14_b, sb_1, na_ushrU, na_a1, na_eq]
  unfold ms_bit
  by_cases h : mU x / 2 ^ u % 2 = 1
  · rw [if_pos h, decide_eq_true h]
    rfl
  · rw [if_neg h, decide_eq_false h]
    rfl
def ms_pc (n : Nat) : Nat := n % 2 + n / 2 % 2 + n / 4 % 2 + n / 8 % 2 + n / 16 % 2 + n / 32 % 2 + n / 64 % 2 + n / 128 % 2
theorem pc_le (n : Nat) : ms_pc n ≤ 8 := by
  unfold ms_pc
  omega
theorem bc_all : ∀ n, n < 256 → (let x := nI n; let y := x - ((x.toUInt32 >>> ((nI 1).toUInt32 &&& Int32.toUInt32 31)).toInt32 &&& nI 1431655765); let z := (y &&& nI 858993459) + ((y.toUInt32 >>> ((nI 2).toUInt32 &&& Int32.toUInt32 31)).toInt32 &&& nI 858993459); let a := (z + (z.toUInt32 >>> ((nI 4).toUInt32 &&& Int32.toUInt32 31)).toInt32) &&& nI 252645135; let b := a + (a.toUInt32 >>> ((nI 8).toUInt32 &&& Int32.toUInt32 31)).toInt32; (b + (b.toUInt32 >>> ((nI 16).toUInt32 &&& Int32.toUInt32 31)).toInt32) &&& nI 63) = nI (ms_pc n) := by decide +kernel
theorem sp_146 {n : Nat} (hn : n < 256) : ms_G 146 0 [.int (nI n)] [] σ = some (.inl (some (.int (nI (ms_pc n)))), σ) := by
  have h := bc_all n hn
  simp only [↓mi_146_0, ↓mi_146_1, ↓mi_146_2, ↓mi_146_3, ↓mi_146_4, ↓mi_146_7, ↓mi_146_8, ↓mi_146_9, ↓mi_146_10, ↓mi_146_11, ↓mi_146_14, ↓mi_146_15, ↓mi_146_16, ↓mi_146_17, ↓mi_146_18, ↓mi_146_21, ↓mi_146_22, ↓mi_146_23, ↓mi_146_24, ↓mi_146_25, ↓mi_146_26, ↓mi_146_27, ↓mi_146_28, ↓mi_146_29, ↓mi_146_32, ↓mi_146_33, ↓mi_146_34, ↓mi_146_35, ↓mi_146_36, ↓mi_146_38, ↓mi_146_39, ↓mi_146_40, ↓mi_146_41, ↓mi_146_42, ↓mi_146_43, ↓mi_146_45, ↓mi_146_46, ↓mi_146_47, ↓mi_146_48, ↓mi_146_49, ↓mi_146_51, ↓mi_146_52]
  rw [← h]
theorem on_l {n : Nat} (hn : n < 256) : ∀ m k (f : Nat), m + k = 32 → (∀ j, k ≤ j → j < 32 → True) → ms_G 43 4 [.int (nI n), .int (nI f), .int (nI k)] [] σ = some (.inl (some (.int (nI (f + (List.range' k m).foldr (fun j s => n / 2 ^ j % 2 + s) 0)))), σ)
  | 0, k, f, hk, _ => by
    have : k = 32 := by omega
    subst this
    simp (disch := omega) only [↓mi_43_4, ↓mi_43_5, ↓mi_43_7, ↓mi_43_24, ↓mi_43_25, na_le, if_pos]
    rfl
  | m + 1, k, f, hk, _ => by
    have hd : n / 2 ^ k ≤ n := Nat.div_le_self _ _
    rw [mi_43_4]
    simp (disch := omega) only [↓mi_43_5, ↓mi_43_7, ↓mi_43_10, ↓mi_43_11, ↓mi_43_12, ↓mi_43_13, ↓mi_43_14, ↓mi_43_15, ↓mi_43_16, ↓mi_43_17, ↓mi_43_18, ↓mi_43_21, na_le, if_neg, na_shr, na_a1, na_up]
    rw [on_l hn m (k + 1) _ (by omega) (fun _ _ _ => trivial)]
    have e : f + (List.range' k (m + 1)).foldr (fun j s => n / 2 ^ j % 2 + s) 0 = f + n / 2 ^ k % 2 + (List.range' (k + 1) m).foldr (fun j s => n / 2 ^ j % 2 + s) 0 := by
      rw [List.range'_succ, List.foldr_cons, Nat.add_assoc]
    rw [e]
theorem on_all : ∀ n, n < 256 → 0 + (List.range' 0 32).foldr (fun j s => n / 2 ^ j % 2 + s) 0 = ms_pc n := by decide +kernel
theorem sp_43 {n : Nat} (hn : n < 256) : ms_G 43 0 [.int (nI n), .null, .null] [] σ = some (.inl (some (.int (nI (ms_pc n)))), σ) := by
  simp only [↓mi_43_0, ↓mi_43_1, ↓mi_43_2, ↓mi_43_3]
  rw [on_l hn 32 0 0 rfl (fun _ _ _ => trivial), on_all n hn]
theorem sp_85 {r u k : Nat} (h1 : mo_0 q.1 r u k = true) (h2 : mo_0 q.1 r u (k + 1) = true) : ms_G 85 0 [.ref (ms_ad r u), .int (nI k)] [] (ms_Z q false I J) = some (.inl (some (.long (lN (ms_num (I r u k) (I r u (k + 1)))))), ms_Z q false I J) := by
  simp (disch := omega) only [↓mi_85_0, ↓mi_85_1, ↓mi_85_2, ↓mi_85_3, ↓mi_85_4, ↓mi_85_5, ↓mi_85_6, ↓mi_85_7, ↓mi_85_8, ↓mi_85_11, cond_true, mz_clv, mz_cln, Bool.false_or, Bool.true_or, Bool.or_false, Bool.or_true, if_true, if_false, ite_self, h1, h2, na_up, sp_84]
-- shares
def ms_S (c : Nat → Nat) (x : Nat) : Nat → Nat
  | 0 => 0
  | k + 1 => ms_S c x k + c (k + 1) * x ^ (k + 1)
def ms_sh (a : Nat) (c : Nat → Nat) (x t : Nat) : Nat := (a + ms_S c x (t - 1)) % 2305843009213693951
theorem ms_sh_lt (a : Nat) (c : Nat → Nat) (x t : Nat) : ms_sh a c x t < 2305843009213693951 := Nat.mod_lt _ (by decide)
theorem hr_l {v t a : Nat} (hv : v < 8) (ha : a < 2305843009213693951) (c : Nat → Nat) (hc : ∀ k, 1 ≤ k → k < 8 → c k = ms_num (I 7 0 (2 * (k - 1))) (I 7 0 (2 * (k - 1) + 1))) : ∀ p s l8 l9, p < 8 → s < 2305843009213693951 → (s * (v + 1) ^ p + ms_S c (v + 1) p) % 2305843009213693951 = ms_S c (v + 1) (t - 1) % 2305843009213693951 → ms_G 131 8 [.long (lN a), .null, .ref (ms_ad 7 0), .int (nI t), .int (nI v), .long (lN s), .null, .int (nI p), l8, l9] [] (ms_Z q false I J) = some (.inl (some (.long (lN (ms_sh a c (v + 1) t)))), ms_Z q false I J)
  | 0, s, l8, l9, hp, hs, h => by
    simp (disch := omega) only [↓mi_131_8, ↓mi_131_10, ↓mi_131_11, ↓mi_131_49, ↓mi_131_51, ↓mi_131_52, ↓mi_131_55, cond_true, mz_clv, mz_cln, Bool.false_or, Bool.true_or, Bool.or_false, Bool.or_true, if_true, if_false, ite_self, na_lt, if_pos, sp_88]
    have e : (s + a) % 2305843009213693951 = ms_sh a c (v + 1) t := by
      unfold ms_sh
      rw [Nat.add_mod, Nat.add_mod a, ← h, Nat.pow_zero, Nat.mul_one]
      show (s % _ + a % _) % _ = (a % _ + (s + 0) % _) % _
      rw [Nat.add_zero, Nat.add_comm (s % _)]
    rw [e]
  | p + 1, s, l8, l9, hp, hs, h => by
    have hn := ms_num_lt (I 7 0 (2 * p)) (I 7 0 (2 * p + 1))
    have hm : (s + ms_num (I 7 0 (2 * p)) (I 7 0 (2 * p + 1))) % 2305843009213693951 < 2305843009213693951 := Nat.mod_lt _ (by decide)
    have hl : (nI (v + 1)).toInt64 = lN (v + 1) := na_l (by omega)
    have hr := sp_85 (q := q) (I := I) (J := J) (r := 7) (u := 0) (k := 2 * p) (o0_7 (by omega)) (o0_7 (by omega))
    rw [mi_131_8]
    simp (disch := omega) only [↓mi_131_10, ↓mi_131_11, ↓mi_131_14, ↓mi_131_15, ↓mi_131_16, ↓mi_131_18, ↓mi_131_19, ↓mi_131_20, ↓mi_131_21, ↓mi_131_24, ↓mi_131_26, ↓mi_131_28, ↓mi_131_30, ↓mi_131_33, ↓mi_131_35, ↓mi_131_36, ↓mi_131_37, ↓mi_131_38, ↓mi_131_41, ↓mi_131_43, ↓mi_131_46, cond_true, mz_clv, mz_cln, Bool.false_or, Bool.true_or, Bool.or_false, Bool.or_true, if_true, if_false, ite_self, na_lt, na_up, if_neg, pk_sub, Nat.add_sub_cancel, pk_mul, hr, sp_88, hl, sp_90, na_dn]
    refine hr_l hv ha c hc p _ _ _ (by omega) (Nat.mod_lt _ (by decide)) ?_
    rw [← h]
    have ec := hc (p + 1) (by omega) hp
    rw [Nat.add_sub_cancel] at ec
    show _ = (s * (v + 1) ^ (p + 1) + (ms_S c (v + 1) p + c (p + 1) * (v + 1) ^ (p + 1))) % _
    rw [ec]
    generalize ms_num (I 7 0 (2 * p)) (I 7 0 (2 * p + 1)) = C at *
    rw [md_hor]
    have e2 : (s + C) * (v + 1) * (v + 1) ^ p + ms_S c (v + 1) p = s * (v + 1) ^ (p + 1) + (ms_S c (v + 1) p + C * (v + 1) ^ (p + 1)) := by
      rw [Nat.pow_succ]
      grind
    rw [e2]
theorem sp_131 {v t a : Nat} (hv : v < 8) (ht : t ≤ 8) (h1 : 1 ≤ t) (ha : a < 2305843009213693951) (c : Nat → Nat) (hc : ∀ k, 1 ≤ k → k < 8 → c k = ms_num (I 7 0 (2 * (k - 1))) (I 7 0 (2 * (k - 1) + 1))) : ms_G 131 0 [.long (lN a), .null, .ref (ms_ad 7 0), .int (nI t), .int (nI v), .null, .null, .null, .null, .null] [] (ms_Z q false I J) = some (.inl (some (.long (lN (ms_sh a c (v + 1) t)))), ms_Z q false I J) := by
  simp (disch := omega) only [↓mi_131_0, ↓mi_131_1, ↓mi_131_3, ↓mi_131_4, ↓mi_131_5, ↓mi_131_6, pk_sub]
  exact hr_l hv ha c hc (t - 1) 0 .null .null (by omega) (by decide) (by rw [Nat.zero_mul, Nat.zero_add])
end Sets
