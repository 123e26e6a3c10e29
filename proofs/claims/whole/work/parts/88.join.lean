/-! SHARES JOINED. -/
def ms_hb (h w : Nat) : Bool := decide (h / 2 ^ w % 2 = 1)
theorem bit_nI {h : Nat} (hh : h < 4294967296) (w : Nat) : ms_bit (nI h) w = ms_hb h w := by
  unfold ms_bit ms_hb
  rw [mU_nI hh]
theorem hb_hi {h n w : Nat} (hh : h < 2 ^ n) (hw : n ≤ w) : ms_hb h w = false := by
  unfold ms_hb
  have : h < 2 ^ w := Nat.lt_of_lt_of_le hh (Nat.pow_le_pow_right (by decide) hw)
  rw [Nat.div_eq_of_lt this]
  rfl
def mj_A (h v : Nat) : Nat → Nat
  | 0 => 1
  | m + 1 => if m ≠ v ∧ ms_hb h m = true then mj_A h v m * (m + 1) else mj_A h v m
def mj_B (h v : Nat) : Nat → Nat
  | 0 => 1
  | m + 1 => if m ≠ v ∧ ms_hb h m = true then mj_B h v m * ((m + 1 + 2305843009213693951 - (v + 1)) % 2305843009213693951) else mj_B h v m
def mj_T (h : Nat) (num : Nat → Nat) : Nat → Nat
  | 0 => 0
  | v + 1 => if ms_hb h v = true then mj_T h num v + num v * mj_A h v 8 * ms_pw (mj_B h v 8) 2305843009213693949 else mj_T h num v
theorem A_hi {h n : Nat} (hh : h < 2 ^ n) (v : Nat) : ∀ m, n ≤ m → mj_A h v m = mj_A h v n
  | 0, hm => by rw [show n = 0 by omega]
  | m + 1, hm => by
    by_cases e : n = m + 1
    · rw [e]
    · show (if m ≠ v ∧ ms_hb h m = true then _ else mj_A h v m) = _
      rw [if_neg (fun z => by rw [hb_hi hh (by omega)] at z; cases z.2)]
      exact A_hi hh v m (by omega)
theorem B_hi {h n : Nat} (hh : h < 2 ^ n) (v : Nat) : ∀ m, n ≤ m → mj_B h v m = mj_B h v n
  | 0, hm => by rw [show n = 0 by omega]
  | m + 1, hm => by
    by_cases e : n = m + 1
    · rw [e]
    · show (if m ≠ v ∧ ms_hb h m = true then _ else mj_B h v m) = _
      rw [if_neg (fun z => by rw [hb_hi hh (by omega)] at z; cases z.2)]
      exact B_hi hh v m (by omega)
theorem T_hi {h n : Nat} (hh : h < 2 ^ n) (num : Nat → Nat) : ∀ m, n ≤ m → mj_T h num m = mj_T h num n
  | 0, hm => by rw [show n = 0 by omega]
  | m + 1, hm => by
    by_cases e : n = m + 1
    · rw [e]
    · show (if ms_hb h m = true then _ else mj_T h num m) = _
      rw [if_neg (fun z => by rw [hb_hi hh (by omega)] at z; cases z)]
      exact T_hi hh num m (by omega)
theorem md_m3 (a b c : Nat) : (a % 2305843009213693951 * b) % 2305843009213693951 = a * b % 2305843009213693951 := Nat.mod_mul_mod _ _ _
def ms_jn (h : Nat) (num : Nat → Nat) : Nat := mj_T h num 8 % 2305843009213693951
theorem ms_jn_lt (h : Nat) (num : Nat → Nat) : ms_jn h num < 2305843009213693951 := Nat.mod_lt _ (by decide)
theorem b_t : ¬ ms_b true = nI 0 := by decide
theorem b_f : ms_b false = nI 0 := rfl
section Join
variable {q : Nat × Nat} {w : Bool} {I : ms_i} {J : ms_j} {σ : ms_M}
theorem jo_i {at' h v a : Nat} (hh : h < 256) (hv : v < 8) {l3 l4 : Value} : ∀ m k, m + k = 8 → ms_G 132 37 [.ref (ms_ad 27 0), .int (nI at'), .int (nI h), l3, l4, .int (nI v), .long (lN (a * mj_A h v k % 2305843009213693951)), .null, .long (lN (mj_B h v k % 2305843009213693951)), .null, .int (nI k)] [] (ms_Z q false I J) = ms_G 132 98 [.ref (ms_ad 27 0), .int (nI at'), .int (nI h), l3, l4, .int (nI v), .long (lN (a * mj_A h v 8 % 2305843009213693951)), .null, .long (lN (mj_B h v 8 % 2305843009213693951)), .null, .int (nI 8)] [] (ms_Z q false I J)
  | 0, k, hk => by
    have : k = 8 := by omega
    subst this
    simp (disch := omega) only [↓mi_132_37, ↓mi_132_39, ↓mi_132_41, na_le, if_pos]
  | m + 1, k, hk => by
    have ih := jo_i (at' := at') (a := a) hh hv (l3 := l3) (l4 := l4) m (k + 1) (by omega)
    have hb : ms_bit (nI h) k = ms_hb h k := bit_nI (by omega) k
    have l1 : (nI (k + 1)).toInt64 = lN (k + 1) := na_l (by omega)
    have l2 : (nI (v + 1)).toInt64 = lN (v + 1) := na_l (by omega)
    have x1 : a * mj_A h v k % 2305843009213693951 < 2305843009213693951 := Nat.mod_lt _ (by decide)
    have x2 : mj_B h v k % 2305843009213693951 < 2305843009213693951 := Nat.mod_lt _ (by decide)
    have x3 : (k + 1 + 2305843009213693951 - (v + 1)) % 2305843009213693951 < 2305843009213693951 := Nat.mod_lt _ (by decide)
    rw [mi_132_37]
    by_cases hkv : k = v
    · have eA : mj_A h v (k + 1) = mj_A h v k := if_neg (fun z => z.1 hkv)
      have eB : mj_B h v (k + 1) = mj_B h v k := if_neg (fun z => z.1 hkv)
      rw [eA, eB] at ih
      simp (disch := omega) only [↓mi_132_39, ↓mi_132_41, ↓mi_132_44, ↓mi_132_46, ↓mi_132_48, ↓mi_132_51, ↓mi_132_52, ↓mi_132_54, ↓mi_132_57, ↓mi_132_60, ↓mi_132_62, ↓mi_132_64, ↓mi_132_65, ↓mi_132_66, ↓mi_132_67, ↓mi_132_70, ↓mi_132_72, ↓mi_132_74, ↓mi_132_76, ↓mi_132_77, ↓mi_132_78, ↓mi_132_79, ↓mi_132_81, ↓mi_132_82, ↓mi_132_83, ↓mi_132_84, ↓mi_132_87, ↓mi_132_90, ↓mi_132_92, ↓mi_132_95, cond_true, mz_clv, mz_cln, Bool.false_or, Bool.true_or, Bool.or_false, Bool.or_true, if_true, if_false, ite_self, na_le, na_eq, na_up, if_neg, if_pos hkv]
      exact ih
    · cases hc : ms_hb h k with
      | false =>
        have eA : mj_A h v (k + 1) = mj_A h v k := if_neg (fun z => by rw [hc] at z; cases z.2)
        have eB : mj_B h v (k + 1) = mj_B h v k := if_neg (fun z => by rw [hc] at z; cases z.2)
        rw [eA, eB] at ih
        simp (disch := omega) only [↓mi_132_39, ↓mi_132_41, ↓mi_132_44, ↓mi_132_46, ↓mi_132_48, ↓mi_132_51, ↓mi_132_52, ↓mi_132_54, ↓mi_132_57, ↓mi_132_60, ↓mi_132_62, ↓mi_132_64, ↓mi_132_65, ↓mi_132_66, ↓mi_132_67, ↓mi_132_70, ↓mi_132_72, ↓mi_132_74, ↓mi_132_76, ↓mi_132_77, ↓mi_132_78, ↓mi_132_79, ↓mi_132_81, ↓mi_132_82, ↓mi_132_83, ↓mi_132_84, ↓mi_132_87, ↓mi_132_90, ↓mi_132_92, ↓mi_132_95, cond_true, mz_clv, mz_cln, Bool.false_or, Bool.true_or, Bool.or_false, Bool.or_true, if_true, if_false, ite_self, na_le, na_eq, na_up, if_neg, if_neg hkv, sp_15, hb, hc, if_pos b_f]
        exact ih
      | true =>
        have eA : mj_A h v (k + 1) = mj_A h v k * (k + 1) := if_pos ⟨hkv, hc⟩
        have eB : mj_B h v (k + 1) = mj_B h v k * ((k + 1 + 2305843009213693951 - (v + 1)) % 2305843009213693951) := if_pos ⟨hkv, hc⟩
        rw [eA, eB] at ih
        simp (disch := omega) only [↓mi_132_39, ↓mi_132_41, ↓mi_132_44, ↓mi_132_46, ↓mi_132_48, ↓mi_132_51, ↓mi_132_52, ↓mi_132_54, ↓mi_132_57, ↓mi_132_60, ↓mi_132_62, ↓mi_132_64, ↓mi_132_65, ↓mi_132_66, ↓mi_132_67, ↓mi_132_70, ↓mi_132_72, ↓mi_132_74, ↓mi_132_76, ↓mi_132_77, ↓mi_132_78, ↓mi_132_79, ↓mi_132_81, ↓mi_132_82, ↓mi_132_83, ↓mi_132_84, ↓mi_132_87, ↓mi_132_90, ↓mi_132_92, ↓mi_132_95, cond_true, mz_clv, mz_cln, Bool.false_or, Bool.true_or, Bool.or_false, Bool.or_true, if_true, if_false, ite_self, na_le, na_eq, na_up, if_neg, if_neg hkv, sp_15, hb, hc, if_neg b_t, l1, l2, sp_90, sp_89, Nat.mod_mul_mod, Nat.mul_assoc]
        exact ih
theorem jo_o {at' h : Nat} (hat : at' + 1 < 17) (hh : h < 256) {l6 l8 l10 : Value} : ∀ m v l6 l8 l10, m + v = 8 → ms_G 132 5 [.ref (ms_ad 27 0), .int (nI at'), .int (nI h), .long (lN (mj_T h (fun v => ms_num (I 28 v at') (I 28 v (at' + 1))) v % 2305843009213693951)), .null, .int (nI v), l6, .null, l8, .null, l10] [] (ms_Z q false I J) = some (.inl (some (.long (lN (ms_jn h (fun v => ms_num (I 28 v at') (I 28 v (at' + 1))))))), ms_Z q false I J)
  | 0, v, l6, l8, l10, hv => by
    have : v = 8 := by omega
    subst this
    simp (disch := omega) only [↓mi_132_5, ↓mi_132_7, ↓mi_132_9, ↓mi_132_122, ↓mi_132_123, na_le, if_pos]
    rfl
  | m + 1, v, l6, l8, l10, hv => by
    have hb : ms_bit (nI h) v = ms_hb h v := bit_nI (by omega) v
    have hr := sp_85 (q := q) (I := I) (J := J) (r := 28) (u := v) (k := at') (o0_28 (by omega) (by omega)) (o0_28 (by omega) (by omega))
    have hnum := ms_num_lt (I 28 v at') (I 28 v (at' + 1))
    have hT : mj_T h (fun v => ms_num (I 28 v at') (I 28 v (at' + 1))) v % 2305843009213693951 < 2305843009213693951 := Nat.mod_lt _ (by decide)
    rw [mi_132_5]
    cases hc : ms_hb h v with
    | false =>
      have ih := jo_o hat hh (l6 := l6) (l8 := l8) (l10 := l10) m (v + 1) l6 l8 l10 (by omega)
      have eT : mj_T h (fun v => ms_num (I 28 v at') (I 28 v (at' + 1))) (v + 1) = mj_T h (fun v => ms_num (I 28 v at') (I 28 v (at' + 1))) v := if_neg (fun z => by rw [hc] at z; cases z)
      rw [eT] at ih
      simp (disch := omega) only [↓mi_132_7, ↓mi_132_9, ↓mi_132_12, ↓mi_132_13, ↓mi_132_15, ↓mi_132_18, ↓mi_132_21, ↓mi_132_22, ↓mi_132_24, ↓mi_132_25, ↓mi_132_26, ↓mi_132_29, ↓mi_132_31, ↓mi_132_32, ↓mi_132_34, ↓mi_132_35, ↓mi_132_37, ↓mi_132_39, ↓mi_132_41, ↓mi_132_44, ↓mi_132_46, ↓mi_132_48, ↓mi_132_51, ↓mi_132_52, ↓mi_132_54, ↓mi_132_57, ↓mi_132_60, ↓mi_132_62, ↓mi_132_64, ↓mi_132_65, ↓mi_132_66, ↓mi_132_67, ↓mi_132_70, ↓mi_132_72, ↓mi_132_74, ↓mi_132_76, ↓mi_132_77, ↓mi_132_78, ↓mi_132_79, ↓mi_132_81, ↓mi_132_82, ↓mi_132_83, ↓mi_132_84, ↓mi_132_87, ↓mi_132_90, ↓mi_132_92, ↓mi_132_95, ↓mi_132_98, ↓mi_132_99, ↓mi_132_101, ↓mi_132_103, ↓mi_132_106, ↓mi_132_109, ↓mi_132_112, ↓mi_132_115, ↓mi_132_116, ↓mi_132_119, cond_true, mz_clv, mz_cln, Bool.false_or, Bool.true_or, Bool.or_false, Bool.or_true, if_true, if_false, ite_self, na_le, na_up, if_neg, sp_15, hb, hc, if_pos b_f]
      exact ih
    | true =>
      have hi := jo_i (q := q) (I := I) (J := J) (at' := at') (a := ms_num (I 28 v at') (I 28 v (at' + 1))) hh (v := v) (by omega) (l3 := .long (lN (mj_T h (fun v => ms_num (I 28 v at') (I 28 v (at' + 1))) v % 2305843009213693951))) (l4 := .null) 8 0 rfl
      rw [show mj_A h v 0 = 1 from rfl, show mj_B h v 0 % 2305843009213693951 = 1 from rfl, Nat.mul_one, Nat.mod_eq_of_lt hnum] at hi
      have ih := jo_o hat hh (l6 := l6) (l8 := l8) (l10 := l10) m (v + 1) (.long (lN (ms_num (I 28 v at') (I 28 v (at' + 1)) * mj_A h v 8 % 2305843009213693951))) (.long (lN (mj_B h v 8 % 2305843009213693951))) (.int (nI 8)) (by omega)
      have eT : mj_T h (fun v => ms_num (I 28 v at') (I 28 v (at' + 1))) (v + 1) = mj_T h (fun v => ms_num (I 28 v at') (I 28 v (at' + 1))) v + ms_num (I 28 v at') (I 28 v (at' + 1)) * mj_A h v 8 * ms_pw (mj_B h v 8) 2305843009213693949 := if_pos hc
      rw [eT] at ih
      have x1 : ms_num (I 28 v at') (I 28 v (at' + 1)) * mj_A h v 8 % 2305843009213693951 < 2305843009213693951 := Nat.mod_lt _ (by decide)
      have x2 : mj_B h v 8 % 2305843009213693951 < 2305843009213693951 := Nat.mod_lt _ (by decide)
      have x3 := ms_pw_lt (mj_B h v 8 % 2305843009213693951) 2305843009213693949
      have x5 := ms_pw_lt (mj_B h v 8) 2305843009213693949
      have x4 : ms_num (I 28 v at') (I 28 v (at' + 1)) * mj_A h v 8 * ms_pw (mj_B h v 8) 2305843009213693949 % 2305843009213693951 < 2305843009213693951 := Nat.mod_lt _ (by decide)
      simp (disch := omega) only [↓mi_132_7, ↓mi_132_9, ↓mi_132_12, ↓mi_132_13, ↓mi_132_15, ↓mi_132_18, ↓mi_132_21, ↓mi_132_22, ↓mi_132_24, ↓mi_132_25, ↓mi_132_26, ↓mi_132_29, ↓mi_132_31, ↓mi_132_32, ↓mi_132_34, ↓mi_132_35, cond_true, mz_clv, mz_cln, Bool.false_or, Bool.true_or, Bool.or_false, Bool.or_true, if_true, if_false, ite_self, o2_27, er_27, na_le, if_neg, sp_15, hb, hc, if_neg b_t, hr]
      rw [hi]
      simp (disch := omega) only [↓mi_132_98, ↓mi_132_99, ↓mi_132_101, ↓mi_132_103, ↓mi_132_106, ↓mi_132_109, ↓mi_132_112, ↓mi_132_115, ↓mi_132_116, ↓mi_132_119, cond_true, mz_clv, mz_cln, Bool.false_or, Bool.true_or, Bool.or_false, Bool.or_true, if_true, if_false, ite_self, sp_91w, ms_pw_mod, sp_90, Nat.mod_mul_mod, sp_88, md_add, na_up]
      exact ih
theorem sp_132 {at' h : Nat} (hat : at' + 1 < 17) (hh : h < 256) : ms_G 132 0 [.ref (ms_ad 27 0), .int (nI at'), .int (nI h), .null, .null, .null, .null, .null, .null, .null, .null] [] (ms_Z q false I J) = some (.inl (some (.long (lN (ms_jn h (fun v => ms_num (I 28 v at') (I 28 v (at' + 1))))))), ms_Z q false I J) := by
  have h1 := jo_o (q := q) (I := I) (J := J) hat hh (l6 := .null) (l8 := .null) (l10 := .null) 8 0 .null .null .null rfl
  simp only [↓mi_132_0, ↓mi_132_1, ↓mi_132_2, ↓mi_132_3]
  exact h1
end Join
