/-! NUMBERS MODULO 2^61 - 1: the model's, and the class's. -/
theorem la_a1 {n : Nat} (hn : n < 18446744073709551616) : lN n &&& lN 1 = lN (n % 2) := wb_mask (k := 1) hn (by decide)
theorem la_m61 {n : Nat} (hn : n < 18446744073709551616) : lN n &&& lN 2305843009213693951 = lN (n % 2305843009213693952) := wb_mask (k := 61) hn (by decide)
theorem la_m31 {n : Nat} (hn : n < 18446744073709551616) : lN n &&& lN 2147483647 = lN (n % 2147483648) := wb_mask (k := 31) hn (by decide)
theorem la_m30 {n : Nat} (hn : n < 18446744073709551616) : lN n &&& lN 1073741823 = lN (n % 1073741824) := wb_mask (k := 30) hn (by decide)
theorem la_m32 {n : Nat} (hn : n < 18446744073709551616) : lN n &&& lN 4294967295 = lN (n % 4294967296) := wb_mask (k := 32) hn (by decide)
theorem la_m26 {n : Nat} (hn : n < 18446744073709551616) : lN n &&& lN 67108863 = lN (n % 67108864) := wb_mask (k := 26) hn (by decide)
theorem la_m13 {n : Nat} (hn : n < 18446744073709551616) : lN n &&& lN 8191 = lN (n % 8192) := wb_mask (k := 13) hn (by decide)
theorem na_U (x : Int32) : nI x.toBitVec.toNat = x := Int32.toBitVec_inj.mp (by show BitVec.ofNat 32 _ = _; simp)
theorem na_m29 {n : Nat} (hn : n < 4294967296) : nI n &&& nI 536870911 = nI (n % 536870912) := pk_andN hn 29 (by decide)
theorem la_ext (h : Nat) (hh : h < 4294967296) : (nI h).toInt64.toBitVec.toNat % 4294967296 = h := by
  have e : (nI h).toInt64.toBitVec = (nI h).toBitVec.signExtend 64 := rfl
  rw [e]
  have e2 : ((nI h).toBitVec.signExtend 64).toNat % 4294967296 = (((nI h).toBitVec.signExtend 64).setWidth 32).toNat := by rw [BitVec.toNat_setWidth]
  rw [e2]
  have e3 : ((nI h).toBitVec.signExtend 64).setWidth 32 = (nI h).toBitVec := by
    apply BitVec.eq_of_getLsbD_eq
    intro i hi
    rw [BitVec.getLsbD_setWidth, BitVec.getLsbD_signExtend]
    simp [hi, show i < 64 by omega]
  rw [e3]
  exact pk_tn hh
theorem la_lo {l : Nat} (hl : l < 4294967296) : (nI l).toInt64 &&& lN 4294967295 = lN l := by
  obtain ⟨n, hn, e⟩ := wb_of (nI l).toInt64
  have h1 := la_ext l hl
  rw [e, wb_tn hn] at h1
  rw [e, la_m32 hn, h1]
theorem la_hi {h : Nat} (hh : h < 4294967296) : (nI h).toInt64 <<< ((nI 32).toInt64 &&& 63) = lN (h * 4294967296) := by
  obtain ⟨n, hn, e⟩ := wb_of (nI h).toInt64
  have h1 := la_ext h hh
  rw [e, wb_tn hn] at h1
  have h2 : n * 2 ^ 32 % 2 ^ 64 = h * 4294967296 % 2 ^ 64 := by omega
  rw [e, wb_shl n (by decide), wb_mod (n * 2 ^ 32), h2, ← wb_mod (h * 4294967296)]
theorem la_or32 {a b : Nat} (ha : a < 4294967296) (hb : b < 4294967296) : lN (b * 4294967296) ||| lN a = lN (b * 4294967296 + a) := g_or (k := 32) (by decide) ha (by omega)
def ms_num (x y : Int32) : Nat := (y.toBitVec.toNat % 536870912 * 4294967296 + x.toBitVec.toNat) % 2305843009213693951
theorem ms_num_lt (x y : Int32) : ms_num x y < 2305843009213693951 := Nat.mod_lt _ (by decide)
theorem md_add (x y p : Nat) : (x % p + y % p) % p = (x + y) % p := (Nat.add_mod x y p).symm
theorem md_bit (b n : Nat) : b / 2 ^ n = 2 * (b / 2 ^ (n + 1)) + b / 2 ^ n % 2 := by
  have h : b / 2 ^ (n + 1) = b / 2 ^ n / 2 := by rw [Nat.pow_succ, Nat.div_div_eq_div_mul]
  rw [h]
  omega
theorem md_big {b : Nat} (hb : b < 2305843009213693952) : b / 2 ^ 61 = 0 := Nat.div_eq_of_lt hb
section Num
variable {q : Nat × Nat} {I : ms_i} {J : ms_j}
theorem sp_20 {σ : ms_M} {a b : Nat} (ha : a < 2305843009213693951) (hb : b < 2305843009213693951) : ms_G 20 0 [.long (lN a), .null, .long (lN b), .null, .null, .null] [] σ = some (.inl (some (.long (lN ((a + b) % 2305843009213693951)))), σ) := by
  simp (disch := omega) only [↓mi_20_0, ↓mi_20_1, ↓mi_20_2, ↓mi_20_3, ↓mi_20_5, ↓mi_20_7, ↓mi_20_10, ↓mi_20_11, ↓mi_20_14, ↓mi_20_16, ↓mi_20_19, ↓mi_20_20, ↓mi_20_23, ↓mi_20_25, lN_add, lN_mul, lN_sub, na_up, pk_mul, lc_lt, lc_le, lc_gt, lc_ge, lc_eq, na_lt, na_le, na_eq, lN_i, na_dn]
  by_cases h : a + b < 2305843009213693951
  · rw [if_pos h, Nat.mod_eq_of_lt h]
  · rw [if_neg h, show (a + b) % 2305843009213693951 = a + b - 2305843009213693951 by omega]
theorem sp_21_l {a b : Nat} (ha : a < 2305843009213693951) (hb : b < 2305843009213693952) : ∀ n, n ≤ 61 → ms_G 21 7 [.long (lN a), .null, .long (lN b), .null, .long (lN (a * (b / 2 ^ n) % 2305843009213693951)), .null, .int (nI n + Int32.ofInt (-1))] [] (ms_Z q false I J) = some (.inl (some (.long (lN (a * b % 2305843009213693951)))), ms_Z q false I J)
  | 0, _ => by
    simp only [↓mi_21_0, ↓mi_21_1, ↓mi_21_3, ↓mi_21_5, ↓mi_21_7, ↓mi_21_9, ↓mi_21_14, ↓mi_21_16, ↓mi_21_19, ↓mi_21_21, ↓mi_21_22, ↓mi_21_24, ↓mi_21_25, ↓mi_21_26, ↓mi_21_27, ↓mi_21_28, ↓mi_21_29, ↓mi_21_32, ↓mi_21_34, ↓mi_21_35, ↓mi_21_38, ↓mi_21_40, ↓mi_21_43, ↓mi_21_46, ↓mi_21_48, if_pos na_dn0, Nat.pow_zero, Nat.div_one]
  | n + 1, hn => by
    have ih := sp_21_l ha hb n (by omega)
    have hr : a * (b / 2 ^ (n + 1)) % 2305843009213693951 < 2305843009213693951 := Nat.mod_lt _ (by decide)
    have hb2 := md_bit b n
    have hle : b / 2 ^ n ≤ b := Nat.div_le_self _ _
    rw [mi_21_7, mi_21_9, na_dn]
    rw [if_neg (by rw [nI_ltI (by omega) (by omega)]; omega)]
    simp (disch := omega) only [↓mi_21_12, ↓mi_21_14, ↓mi_21_16, ↓mi_21_19, ↓mi_21_21, ↓mi_21_22, ↓mi_21_24, ↓mi_21_25, ↓mi_21_26, ↓mi_21_27, ↓mi_21_28, ↓mi_21_29, ↓mi_21_32, ↓mi_21_34, ↓mi_21_35, ↓mi_21_38, ↓mi_21_40, ↓mi_21_43, lN_add, lN_mul, lN_sub, na_up, pk_mul, lc_lt, lc_le, lc_gt, lc_ge, lc_eq, na_lt, na_le, na_eq, lN_i, na_dn, cond_true, mz_clv, mz_cln, Bool.false_or, Bool.true_or, Bool.or_false, Bool.or_true, if_true, if_false, ite_self, sp_20, la_shr, la_a1, md_add]
    by_cases h : b / 2 ^ n % 2 = 1
    · rw [if_pos h, Nat.mod_add_mod, ← Nat.mul_add, show a * (b / 2 ^ (n + 1) + b / 2 ^ (n + 1)) + a = a * (b / 2 ^ n) by rw [hb2, h]; grind]
      exact ih
    · rw [if_neg h, ← Nat.mul_add, show b / 2 ^ (n + 1) + b / 2 ^ (n + 1) = b / 2 ^ n by omega]
      exact ih
theorem sp_21 {a b : Nat} (ha : a < 2305843009213693951) (hb : b < 2305843009213693952) : ms_G 21 0 [.long (lN a), .null, .long (lN b), .null, .null, .null, .null] [] (ms_Z q false I J) = some (.inl (some (.long (lN (a * b % 2305843009213693951)))), ms_Z q false I J) := by
  have h := sp_21_l (q := q) (I := I) (J := J) ha hb 61 (Nat.le_refl _)
  rw [md_big hb, Nat.mul_zero, Nat.zero_mod, na_dn] at h
  simp only [↓mi_21_0, ↓mi_21_1, ↓mi_21_3, ↓mi_21_5]
  exact h
theorem sp_22_l {a b : Nat} (ha : a < 2305843009213693951) (hb : b < 2305843009213693952) : ∀ n, n ≤ 61 → ms_G 22 7 [.long (lN a), .null, .long (lN b), .null, .long (lN (a ^ (b / 2 ^ n) % 2305843009213693951)), .null, .int (nI n + Int32.ofInt (-1))] [] (ms_Z q false I J) = some (.inl (some (.long (lN (a ^ b % 2305843009213693951)))), ms_Z q false I J)
  | 0, _ => by
    simp only [↓mi_22_0, ↓mi_22_1, ↓mi_22_3, ↓mi_22_5, ↓mi_22_7, ↓mi_22_9, ↓mi_22_14, ↓mi_22_16, ↓mi_22_19, ↓mi_22_21, ↓mi_22_22, ↓mi_22_24, ↓mi_22_25, ↓mi_22_26, ↓mi_22_27, ↓mi_22_28, ↓mi_22_29, ↓mi_22_32, ↓mi_22_34, ↓mi_22_35, ↓mi_22_38, ↓mi_22_40, ↓mi_22_43, ↓mi_22_46, ↓mi_22_48, if_pos na_dn0, Nat.pow_zero, Nat.div_one]
  | n + 1, hn => by
    have ih := sp_22_l ha hb n (by omega)
    have hr : a ^ (b / 2 ^ (n + 1)) % 2305843009213693951 < 2305843009213693951 := Nat.mod_lt _ (by decide)
    have hb2 := md_bit b n
    have hle : b / 2 ^ n ≤ b := Nat.div_le_self _ _
    have key : ∀ X : Nat, (a ^ X % 2305843009213693951 * (a ^ X % 2305843009213693951)) % 2305843009213693951 = a ^ (2 * X) % 2305843009213693951 := by
      intro X
      rw [← Nat.mul_mod, ← Nat.pow_add, Nat.two_mul]
    rw [mi_22_7, mi_22_9, na_dn]
    rw [if_neg (by rw [nI_ltI (by omega) (by omega)]; omega)]
    simp (disch := omega) only [↓mi_22_12, ↓mi_22_14, ↓mi_22_16, ↓mi_22_19, ↓mi_22_21, ↓mi_22_22, ↓mi_22_24, ↓mi_22_25, ↓mi_22_26, ↓mi_22_27, ↓mi_22_28, ↓mi_22_29, ↓mi_22_32, ↓mi_22_34, ↓mi_22_35, ↓mi_22_38, ↓mi_22_40, ↓mi_22_43, lN_add, lN_mul, lN_sub, na_up, pk_mul, lc_lt, lc_le, lc_gt, lc_ge, lc_eq, na_lt, na_le, na_eq, lN_i, na_dn, cond_true, mz_clv, mz_cln, Bool.false_or, Bool.true_or, Bool.or_false, Bool.or_true, if_true, if_false, ite_self, sp_21, la_shr, la_a1, key]
    by_cases h : b / 2 ^ n % 2 = 1
    · rw [if_pos h, Nat.mod_mul_mod, ← Nat.pow_succ, show (2 * (b / 2 ^ (n + 1))).succ = b / 2 ^ n by omega]
      exact ih
    · rw [if_neg h, show 2 * (b / 2 ^ (n + 1)) = b / 2 ^ n by omega]
      exact ih
theorem sp_22 {a b : Nat} (ha : a < 2305843009213693951) (hb : b < 2305843009213693952) : ms_G 22 0 [.long (lN a), .null, .long (lN b), .null, .null, .null, .null] [] (ms_Z q false I J) = some (.inl (some (.long (lN (a ^ b % 2305843009213693951)))), ms_Z q false I J) := by
  have h := sp_22_l (q := q) (I := I) (J := J) ha hb 61 (Nat.le_refl _)
  rw [md_big hb, Nat.pow_zero, na_dn] at h
  simp only [↓mi_22_0, ↓mi_22_1, ↓mi_22_3, ↓mi_22_5]
  exact h
theorem sp_23 {σ : ms_M} (x y : Int32) : ms_G 23 0 [.int x, .int y, .null, .null] [] σ = some (.inl (some (.long (lN (ms_num x y)))), σ) := by
  obtain ⟨l, hl, rfl⟩ := wb_of32 x
  obtain ⟨h, hh, rfl⟩ := wb_of32 y
  unfold ms_num
  rw [pk_tn hl, pk_tn hh]
  simp (disch := omega) only [↓mi_23_0, ↓mi_23_1, ↓mi_23_3, ↓mi_23_4, ↓mi_23_5, ↓mi_23_7, ↓mi_23_8, ↓mi_23_9, ↓mi_23_10, ↓mi_23_13, ↓mi_23_14, ↓mi_23_15, ↓mi_23_16, ↓mi_23_17, ↓mi_23_20, ↓mi_23_21, ↓mi_23_24, ↓mi_23_25, ↓mi_23_28, ↓mi_23_29, na_m29, na_l (n := h % 536870912), wb_shl, la_lo]
  rw [show h % 536870912 * 2 ^ 32 = h % 536870912 * 4294967296 from rfl, la_or32 (by omega) (by omega)]
  simp (disch := omega) only [lc_eq]
  by_cases e : h % 536870912 * 4294967296 + l = 2305843009213693951
  · rw [if_pos e, e]
  · rw [if_neg e, Nat.mod_eq_of_lt (a := h % 536870912 * 4294967296 + l) (by omega)]
theorem sp_87 {σ : ms_M} {x : Nat} (hx : x < 18446744073709551616) : ms_G 87 0 [.long (lN x), .null, .null, .null] [] σ = some (.inl (some (.long (lN (x % 2305843009213693951)))), σ) := by
  simp (disch := omega) only [↓mi_87_0, ↓mi_87_1, ↓mi_87_4, ↓mi_87_5, ↓mi_87_6, ↓mi_87_8, ↓mi_87_9, ↓mi_87_10, ↓mi_87_11, ↓mi_87_12, ↓mi_87_15, ↓mi_87_16, ↓mi_87_19, ↓mi_87_20, ↓mi_87_23, ↓mi_87_24, ↓mi_87_27, ↓mi_87_28, lN_add, lN_mul, lN_sub, na_up, pk_mul, lc_lt, lc_le, lc_gt, lc_ge, lc_eq, na_lt, na_le, na_eq, lN_i, na_dn, la_m61, wb_shr]
  by_cases h : x % 2305843009213693952 + x / 2 ^ 61 < 2305843009213693951
  · rw [if_pos h, show x % 2305843009213693951 = x % 2305843009213693952 + x / 2 ^ 61 by omega]
  · rw [if_neg h, show x % 2305843009213693951 = x % 2305843009213693952 + x / 2 ^ 61 - 2305843009213693951 by omega]
theorem sp_84 (x y : Int32) : ms_G 84 0 [.int x, .int y, .null, .null] [] (ms_Z q false I J) = some (.inl (some (.long (lN (ms_num x y)))), ms_Z q false I J) := by
  obtain ⟨l, hl, rfl⟩ := wb_of32 x
  obtain ⟨h, hh, rfl⟩ := wb_of32 y
  unfold ms_num
  rw [pk_tn hl, pk_tn hh]
  simp (disch := omega) only [↓mi_84_0, ↓mi_84_1, ↓mi_84_2, ↓mi_84_4, ↓mi_84_5, ↓mi_84_6, ↓mi_84_7, ↓mi_84_10, ↓mi_84_11, ↓mi_84_12, ↓mi_84_13, ↓mi_84_14, ↓mi_84_17, ↓mi_84_18, ↓mi_84_21, cond_true, mz_clv, mz_cln, Bool.false_or, Bool.true_or, Bool.or_false, Bool.or_true, if_true, if_false, ite_self, la_hi, la_lo, la_or32, la_m61, sp_87]
  rw [show (h * 4294967296 + l) % 2305843009213693952 = h % 536870912 * 4294967296 + l by omega]
theorem sp_88 {a b : Nat} (ha : a < 2305843009213693951) (hb : b < 2305843009213693951) : ms_G 88 0 [.long (lN a), .null, .long (lN b), .null] [] (ms_Z q false I J) = some (.inl (some (.long (lN ((a + b) % 2305843009213693951)))), ms_Z q false I J) := by
  simp (disch := omega) only [↓mi_88_0, ↓mi_88_1, ↓mi_88_2, ↓mi_88_3, ↓mi_88_6, cond_true, mz_clv, mz_cln, Bool.false_or, Bool.true_or, Bool.or_false, Bool.or_true, if_true, if_false, ite_self, lN_add, lN_mul, lN_sub, na_up, pk_mul, lc_lt, lc_le, lc_gt, lc_ge, lc_eq, na_lt, na_le, na_eq, lN_i, na_dn, sp_87]
theorem sp_89 {a b : Nat} (ha : a < 2305843009213693951) (hb : b < 2305843009213693951) : ms_G 89 0 [.long (lN a), .null, .long (lN b), .null] [] (ms_Z q false I J) = some (.inl (some (.long (lN ((a + 2305843009213693951 - b) % 2305843009213693951)))), ms_Z q false I J) := by
  simp (disch := omega) only [↓mi_89_0, ↓mi_89_1, ↓mi_89_4, ↓mi_89_5, ↓mi_89_6, ↓mi_89_7, ↓mi_89_10, cond_true, mz_clv, mz_cln, Bool.false_or, Bool.true_or, Bool.or_false, Bool.or_true, if_true, if_false, ite_self, lN_add, lN_mul, lN_sub, na_up, pk_mul, lc_lt, lc_le, lc_gt, lc_ge, lc_eq, na_lt, na_le, na_eq, lN_i, na_dn, sp_87]
theorem md_tim {A B C D : Nat} : (2 * A * C + ((A * D + B * C) / 1073741824 + (A * D + B * C) % 1073741824 * 2147483648) + B * D) % 2305843009213693951 = (2147483648 * A + B) * (2147483648 * C + D) % 2305843009213693951 := by
  have h : (2147483648 * A + B) * (2147483648 * C + D) = (2 * A * C + ((A * D + B * C) / 1073741824 + (A * D + B * C) % 1073741824 * 2147483648) + B * D) + 2305843009213693951 * (2 * (A * C) + (A * D + B * C) / 1073741824) := by
    have h1 : (2147483648 * A + B) * (2147483648 * C + D) = 4611686018427387904 * (A * C) + 2147483648 * (A * D + B * C) + B * D := by grind
    have h2 : 2 * A * C = 2 * (A * C) := Nat.mul_assoc _ _ _
    omega
  rw [h, Nat.add_mul_mod_self_left]
theorem sp_90 {a b : Nat} (ha : a < 2305843009213693951) (hb : b < 2305843009213693951) : ms_G 90 0 [.long (lN a), .null, .long (lN b), .null, .null, .null, .null, .null, .null, .null, .null, .null, .null, .null, .null, .null] [] (ms_Z q false I J) = some (.inl (some (.long (lN (a * b % 2305843009213693951)))), ms_Z q false I J) := by
  have h1 : a / 2147483648 * (b % 2147483648) ≤ 1073741823 * 2147483647 := Nat.mul_le_mul (by omega) (by omega)
  have h2 : a % 2147483648 * (b / 2147483648) ≤ 2147483647 * 1073741823 := Nat.mul_le_mul (by omega) (by omega)
  have h3 : a / 2147483648 * (b / 2147483648) ≤ 1073741823 * 1073741823 := Nat.mul_le_mul (by omega) (by omega)
  have h4 : a % 2147483648 * (b % 2147483648) ≤ 2147483647 * 2147483647 := Nat.mul_le_mul (by omega) (by omega)
  have h5 : 2 * (a / 2147483648) * (b / 2147483648) = 2 * (a / 2147483648 * (b / 2147483648)) := Nat.mul_assoc _ _ _
  have e31 : (2 : Nat) ^ 31 = 2147483648 := rfl
  have e30 : (2 : Nat) ^ 30 = 1073741824 := rfl
  simp (disch := omega) only [↓mi_90_0, ↓mi_90_1, ↓mi_90_3, ↓mi_90_4, ↓mi_90_6, ↓mi_90_7, ↓mi_90_10, ↓mi_90_11, ↓mi_90_13, ↓mi_90_14, ↓mi_90_16, ↓mi_90_17, ↓mi_90_19, ↓mi_90_20, ↓mi_90_23, ↓mi_90_24, ↓mi_90_26, ↓mi_90_28, ↓mi_90_30, ↓mi_90_31, ↓mi_90_33, ↓mi_90_35, ↓mi_90_36, ↓mi_90_37, ↓mi_90_39, ↓mi_90_41, ↓mi_90_43, ↓mi_90_44, ↓mi_90_46, ↓mi_90_49, ↓mi_90_50, ↓mi_90_52, ↓mi_90_53, ↓mi_90_54, ↓mi_90_56, ↓mi_90_59, ↓mi_90_61, ↓mi_90_62, ↓mi_90_64, ↓mi_90_65, ↓mi_90_67, ↓mi_90_68, ↓mi_90_70, ↓mi_90_72, ↓mi_90_73, ↓mi_90_74, ↓mi_90_77, cond_true, mz_clv, mz_cln, Bool.false_or, Bool.true_or, Bool.or_false, Bool.or_true, if_true, if_false, ite_self, lN_add, lN_mul, lN_sub, na_up, pk_mul, lc_lt, lc_le, lc_gt, lc_ge, lc_eq, na_lt, na_le, na_eq, lN_i, na_dn, la_m31, la_m30, wb_shr, wb_shl, e31, e30, sp_87]
  rw [md_tim, show 2147483648 * (a / 2147483648) + a % 2147483648 = a by omega, show 2147483648 * (b / 2147483648) + b % 2147483648 = b by omega]
theorem md_pow (R S m p : Nat) : R % p * (S % p) ^ m % p = R * S ^ m % p := by
  rw [Nat.mul_mod, Nat.mod_mod, ← Nat.pow_mod, ← Nat.mul_mod]
theorem sp_91_l {x e : Nat} (he : e < 2305843009213693952) : ∀ n k R S, n + k = 61 → R < 2305843009213693951 → S < 2305843009213693951 → R * S ^ (e / 2 ^ k) % 2305843009213693951 = x ^ e % 2305843009213693951 → ms_G 91 9 [.long (lN x), .null, .long (lN e), .null, .long (lN R), .null, .long (lN S), .null, .int (nI k)] [] (ms_Z q false I J) = some (.inl (some (.long (lN (x ^ e % 2305843009213693951)))), ms_Z q false I J)
  | 0, k, R, S, hk, hR, hS, h => by
    have : k = 61 := by omega
    subst this
    rw [md_big he, Nat.pow_zero, Nat.mul_one, Nat.mod_eq_of_lt hR] at h
    simp (disch := omega) only [↓mi_91_0, ↓mi_91_1, ↓mi_91_3, ↓mi_91_4, ↓mi_91_6, ↓mi_91_7, ↓mi_91_9, ↓mi_91_11, ↓mi_91_13, ↓mi_91_17, ↓mi_91_19, ↓mi_91_20, ↓mi_91_21, ↓mi_91_22, ↓mi_91_23, ↓mi_91_24, ↓mi_91_27, ↓mi_91_29, ↓mi_91_31, ↓mi_91_34, ↓mi_91_36, ↓mi_91_38, ↓mi_91_40, ↓mi_91_43, ↓mi_91_45, ↓mi_91_48, ↓mi_91_51, ↓mi_91_53, lN_add, lN_mul, lN_sub, na_up, pk_mul, lc_lt, lc_le, lc_gt, lc_ge, lc_eq, na_lt, na_le, na_eq, lN_i, na_dn, if_pos, h]
  | n + 1, k, R, S, hk, hR, hS, h => by
    have hb2 := md_bit e k
    have hle : e / 2 ^ k ≤ e := Nat.div_le_self _ _
    have hSS : S * S % 2305843009213693951 < 2305843009213693951 := Nat.mod_lt _ (by decide)
    have hRS : R * S % 2305843009213693951 < 2305843009213693951 := Nat.mod_lt _ (by decide)
    rw [mi_91_9]
    simp (disch := omega) only [↓mi_91_11, ↓mi_91_13, ↓mi_91_16, ↓mi_91_17, ↓mi_91_19, ↓mi_91_20, ↓mi_91_21, ↓mi_91_22, ↓mi_91_23, ↓mi_91_24, ↓mi_91_27, ↓mi_91_29, ↓mi_91_31, ↓mi_91_34, ↓mi_91_36, ↓mi_91_38, ↓mi_91_40, ↓mi_91_43, ↓mi_91_45, ↓mi_91_48, lN_add, lN_mul, lN_sub, na_up, pk_mul, lc_lt, lc_le, lc_gt, lc_ge, lc_eq, na_lt, na_le, na_eq, lN_i, na_dn, cond_true, mz_clv, mz_cln, Bool.false_or, Bool.true_or, Bool.or_false, Bool.or_true, if_true, if_false, ite_self, if_neg, sp_90, wb_shr, la_a1]
    by_cases hb : e / 2 ^ k % 2 = 0
    · rw [if_pos hb]
      refine sp_91_l he n (k + 1) R _ (by omega) hR hSS ?_
      rw [← h, show e / 2 ^ k = 2 * (e / 2 ^ (k + 1)) by omega, Nat.pow_mul, Nat.pow_two, ← md_pow R (S * S), Nat.mod_eq_of_lt hR]
    · rw [if_neg hb]
      refine sp_91_l he n (k + 1) _ _ (by omega) hRS hSS ?_
      have e1 : ∀ m, S ^ (2 * m + 1) = (S * S) ^ m * S := fun m => by rw [Nat.pow_succ, Nat.pow_mul, Nat.pow_two]
      rw [md_pow, ← h, show e / 2 ^ k = 2 * (e / 2 ^ (k + 1)) + 1 by omega, e1, Nat.mul_assoc, Nat.mul_comm S]
theorem sp_91 {x e : Nat} (hx : x < 2305843009213693951) (he : e < 2305843009213693952) : ms_G 91 0 [.long (lN x), .null, .long (lN e), .null, .null, .null, .null, .null, .null] [] (ms_Z q false I J) = some (.inl (some (.long (lN (x ^ e % 2305843009213693951)))), ms_Z q false I J) := by
  simp only [↓mi_91_0, ↓mi_91_1, ↓mi_91_3, ↓mi_91_4, ↓mi_91_6, ↓mi_91_7]
  exact sp_91_l he 61 0 1 x rfl (by decide) hx (by rw [Nat.one_mul, Nat.pow_zero, Nat.div_one])
end Num
