/-! WHO HOLDS A SHARE; the model's join. -/
theorem na_or1 {h v : Nat} (hv : v < 32) (hh : h < 2 ^ v) : nI h ||| (nI 1 <<< (nI v &&& 31)) = nI (h + 2 ^ v) := by
  rw [na_shl 1 hv, na_or]
  have := Nat.two_pow_add_eq_or_of_lt hh 1
  rw [Nat.mul_one] at this
  rw [Nat.one_mul, Nat.or_comm, ← this, Nat.add_comm]
theorem uL_uL (f : Nat → Int64) (k : Nat) (x y : Int64) : vp_updL (vp_updL f k x) k y = vp_updL f k y := by
  funext j
  unfold vp_updL
  by_cases h : j = k
  · rw [if_pos h, if_pos h]
  · rw [if_neg h, if_neg h, if_neg h]
theorem p2_8 {k : Nat} (hk : k ≤ 8) : 2 ^ k ≤ 256 := Nat.pow_le_pow_right (by decide) hk
def ms_ho (c : Nat → Bool) (t : Nat) : Nat → Nat
  | 0 => 0
  | k + 1 => if c k = true ∧ ms_pc (ms_ho c t k) < t then ms_ho c t k + 2 ^ k else ms_ho c t k
theorem ho_lt (c : Nat → Bool) (t : Nat) : ∀ k, ms_ho c t k < 2 ^ k
  | 0 => Nat.zero_lt_one
  | k + 1 => by
    have ih := ho_lt c t k
    have e : 2 ^ (k + 1) = 2 ^ k + 2 ^ k := by rw [Nat.pow_succ]; omega
    unfold ms_ho
    split <;> omega
theorem ho_hi {c : Nat → Bool} {n : Nat} (t : Nat) (hc : ∀ k, n ≤ k → c k = false) : ∀ m, n ≤ m → ms_ho c t m = ms_ho c t n
  | 0, hm => by rw [show n = 0 by omega]
  | m + 1, hm => by
    by_cases e : n = m + 1
    · rw [e]
    · rw [← ho_hi t hc m (by omega)]
      exact if_neg (fun z => by rw [hc m (by omega)] at z; cases z.1)
theorem ho_st {c : Nat → Bool} {t k : Nat} (hp : ¬ ms_pc (ms_ho c t k) < t) : ∀ m, k ≤ m → ms_ho c t m = ms_ho c t k
  | 0, hm => by rw [show k = 0 by omega]
  | m + 1, hm => by
    by_cases e : k = m + 1
    · rw [e]
    · have ih := ho_st hp m (by omega)
      rw [← ih]
      exact if_neg (fun z => hp (by rw [← ih]; exact z.2))
theorem ho_cg {c c' : Nat → Bool} (t : Nat) : ∀ m, (∀ k, k < m → c k = c' k) → ms_ho c t m = ms_ho c' t m
  | 0, _ => rfl
  | m + 1, h => by
    have ih := ho_cg t m (fun k hk => h k (by omega))
    show (if c m = true ∧ ms_pc (ms_ho c t m) < t then ms_ho c t m + 2 ^ m else ms_ho c t m) = (if c' m = true ∧ ms_pc (ms_ho c' t m) < t then ms_ho c' t m + 2 ^ m else ms_ho c' t m)
    rw [h m (by omega), ih]
theorem T_cg {h : Nat} {f g : Nat → Nat} : ∀ m, (∀ v, v < m → f v = g v) → mj_T h f m = mj_T h g m
  | 0, _ => rfl
  | m + 1, e => by
    have ih := T_cg (h := h) m (fun v hv => e v (by omega))
    show (if ms_hb h m = true then mj_T h f m + f m * mj_A h m 8 * ms_pw (mj_B h m 8) 2305843009213693949 else mj_T h f m) = (if ms_hb h m = true then mj_T h g m + g m * mj_A h m 8 * ms_pw (mj_B h m 8) 2305843009213693949 else mj_T h g m)
    rw [ih, e m (by omega)]
theorem md_jn (A W N p : Nat) : ((A % p * W) % p * N) % p = (N * A * W) % p := by
  rw [Nat.mod_mul_mod, Nat.mul_assoc, Nat.mod_mul_mod, Nat.mul_comm N A, Nat.mul_assoc, Nat.mul_comm N W]
section Hold
variable {q : Nat × Nat} {w : Bool} {I : ms_i} {J : ms_j} {σ : ms_M}
theorem lh_l {u t : Nat} (hu : u < 8) (ht : t ≤ 8) (hT : I 19 0 1 = nI t) (c : Nat → Bool) (hc : ∀ v, c v = (ms_bit (I 19 0 4) v && ms_bit (I 28 v 0) u)) : ∀ m k l4, m + k = 8 → ms_G 128 4 [.ref (ms_ad 19 0), .int (nI u), .int (nI (ms_ho c t k)), .int (nI k), l4] [] (ms_Z q false I J) = some (.inl (some (.int (nI (ms_ho c t 8)))), ms_Z q false I J)
  | 0, k, l4, hk => by
    have : k = 8 := by omega
    subst this
    simp (disch := omega) only [↓mi_128_4, ↓mi_128_5, ↓mi_128_7, ↓mi_128_71, ↓mi_128_72, na_le, if_pos]
  | m + 1, k, l4, hk => by
    have h1 := ho_lt c t k
    have h2 := p2_8 (k := k) (by omega)
    have h3 := pc_le (ms_ho c t k)
    have eS : ms_ho c t (k + 1) = if c k = true ∧ ms_pc (ms_ho c t k) < t then ms_ho c t k + 2 ^ k else ms_ho c t k := rfl
    have e1 := na_or1 (h := ms_ho c t k) (v := k) (by omega) h1
    have ih := fun l4 => lh_l hu ht hT c hc m (k + 1) l4 (by omega)
    rw [eS] at ih
    rw [mi_128_4]
    cases hA : ms_bit (I 19 0 4) k with
    | false =>
      have hn : ¬ (c k = true ∧ ms_pc (ms_ho c t k) < t) := fun z => by rw [hc, hA] at z; cases z.1
      rw [if_neg hn] at ih
      simp (disch := omega) only [↓mi_128_5, ↓mi_128_7, ↓mi_128_10, ↓mi_128_11, ↓mi_128_14, ↓mi_128_15, ↓mi_128_18, ↓mi_128_21, ↓mi_128_22, ↓mi_128_25, ↓mi_128_26, ↓mi_128_27, ↓mi_128_28, ↓mi_128_29, ↓mi_128_30, ↓mi_128_33, ↓mi_128_36, ↓mi_128_37, ↓mi_128_40, ↓mi_128_41, ↓mi_128_43, ↓mi_128_45, ↓mi_128_48, ↓mi_128_49, ↓mi_128_52, ↓mi_128_53, ↓mi_128_56, ↓mi_128_59, ↓mi_128_60, ↓mi_128_61, ↓mi_128_62, ↓mi_128_63, ↓mi_128_64, ↓mi_128_65, ↓mi_128_68, cond_true, mz_clv, mz_cln, Bool.false_or, Bool.true_or, Bool.or_false, Bool.or_true, if_true, if_false, ite_self, na_le, na_eq, na_up, if_neg, if_pos, sp_15, hA, if_pos b_f]
      exact ih _
    | true =>
      cases hB : ms_bit (I 28 k 0) u with
      | false =>
        have hn : ¬ (c k = true ∧ ms_pc (ms_ho c t k) < t) := fun z => by rw [hc, hA, hB] at z; cases z.1
        rw [if_neg hn] at ih
        simp (disch := omega) only [↓mi_128_5, ↓mi_128_7, ↓mi_128_10, ↓mi_128_11, ↓mi_128_14, ↓mi_128_15, ↓mi_128_18, ↓mi_128_21, ↓mi_128_22, ↓mi_128_25, ↓mi_128_26, ↓mi_128_27, ↓mi_128_28, ↓mi_128_29, ↓mi_128_30, ↓mi_128_33, ↓mi_128_36, ↓mi_128_37, ↓mi_128_40, ↓mi_128_41, ↓mi_128_43, ↓mi_128_45, ↓mi_128_48, ↓mi_128_49, ↓mi_128_52, ↓mi_128_53, ↓mi_128_56, ↓mi_128_59, ↓mi_128_60, ↓mi_128_61, ↓mi_128_62, ↓mi_128_63, ↓mi_128_64, ↓mi_128_65, ↓mi_128_68, cond_true, mz_clv, mz_cln, Bool.false_or, Bool.true_or, Bool.or_false, Bool.or_true, if_true, if_false, ite_self, o2_27, o0_28, er_27, na_le, na_eq, na_up, if_neg, if_pos, sp_15, hA, hB, if_pos b_f, if_neg b_t]
        exact ih _
      | true =>
        have hcc : c k = true := by rw [hc, hA, hB]; rfl
        by_cases hp : ms_pc (ms_ho c t k) < t
        · rw [if_pos ⟨hcc, hp⟩] at ih
          simp (disch := omega) only [↓mi_128_5, ↓mi_128_7, ↓mi_128_10, ↓mi_128_11, ↓mi_128_14, ↓mi_128_15, ↓mi_128_18, ↓mi_128_21, ↓mi_128_22, ↓mi_128_25, ↓mi_128_26, ↓mi_128_27, ↓mi_128_28, ↓mi_128_29, ↓mi_128_30, ↓mi_128_33, ↓mi_128_36, ↓mi_128_37, ↓mi_128_40, ↓mi_128_41, ↓mi_128_43, ↓mi_128_45, ↓mi_128_48, ↓mi_128_49, ↓mi_128_52, ↓mi_128_53, ↓mi_128_56, ↓mi_128_59, ↓mi_128_60, ↓mi_128_61, ↓mi_128_62, ↓mi_128_63, ↓mi_128_64, ↓mi_128_65, ↓mi_128_68, cond_true, mz_clv, mz_cln, Bool.false_or, Bool.true_or, Bool.or_false, Bool.or_true, if_true, if_false, ite_self, o2_27, o0_28, er_27, na_le, na_eq, na_up, if_neg, if_pos, sp_15, hA, hB, if_neg b_t, sp_146, hT, e1]
          exact ih _
        · rw [if_neg (fun z => hp z.2)] at ih
          simp (disch := omega) only [↓mi_128_5, ↓mi_128_7, ↓mi_128_10, ↓mi_128_11, ↓mi_128_14, ↓mi_128_15, ↓mi_128_18, ↓mi_128_21, ↓mi_128_22, ↓mi_128_25, ↓mi_128_26, ↓mi_128_27, ↓mi_128_28, ↓mi_128_29, ↓mi_128_30, ↓mi_128_33, ↓mi_128_36, ↓mi_128_37, ↓mi_128_40, ↓mi_128_41, ↓mi_128_43, ↓mi_128_45, ↓mi_128_48, ↓mi_128_49, ↓mi_128_52, ↓mi_128_53, ↓mi_128_56, ↓mi_128_59, ↓mi_128_60, ↓mi_128_61, ↓mi_128_62, ↓mi_128_63, ↓mi_128_64, ↓mi_128_65, ↓mi_128_68, cond_true, mz_clv, mz_cln, Bool.false_or, Bool.true_or, Bool.or_false, Bool.or_true, if_true, if_false, ite_self, o2_27, o0_28, er_27, na_le, na_eq, na_up, if_neg, if_pos, sp_15, hA, hB, if_neg b_t, sp_146, hT]
          exact ih _
theorem sp_128 {u t : Nat} (hu : u < 8) (ht : t ≤ 8) (hT : I 19 0 1 = nI t) (c : Nat → Bool) (hc : ∀ v, c v = (ms_bit (I 19 0 4) v && ms_bit (I 28 v 0) u)) : ms_G 128 0 [.ref (ms_ad 19 0), .int (nI u), .null, .null, .null] [] (ms_Z q false I J) = some (.inl (some (.int (nI (ms_ho c t 8)))), ms_Z q false I J) := by
  have h := lh_l (q := q) (J := J) hu ht hT c hc 8 0 .null rfl
  simp only [↓mi_128_0, ↓mi_128_1, ↓mi_128_2, ↓mi_128_3]
  exact h
theorem mw_l {v t n : Nat} (hv : v < 8) (hn : n ≤ 8) (ht : t ≤ 8) (hN : I 40 0 1 = nI n) (hT : I 40 0 2 = nI t) (c : Nat → Bool) (hc : ∀ u, c u = (ms_bit (I 51 0 3) u && ms_bit (I 55 0 (17 * u)) v)) : ∀ m k, m + k = n → ∃ x, ms_G 58 4 [.ref (ms_ad 40 0), .int (nI v), .int (nI (ms_ho c t k)), .int (nI k), .null, .null, .null, .null, .null, .null] [] (ms_Z q false I J) = ms_G 58 64 [.ref (ms_ad 40 0), .int (nI v), .int (nI (ms_ho c t n)), .int x, .null, .null, .null, .null, .null, .null] [] (ms_Z q false I J)
  | 0, k, hk => by
    have : k = n := by omega
    subst this
    refine ⟨nI k, ?_⟩
    simp (disch := omega) only [↓mi_58_4, ↓mi_58_5, ↓mi_58_6, ↓mi_58_9, hN, na_le, if_pos]
  | m + 1, k, hk => by
    have h1 := ho_lt c t k
    have h2 := p2_8 (k := k) (by omega)
    have h3 := pc_le (ms_ho c t k)
    have eS : ms_ho c t (k + 1) = if c k = true ∧ ms_pc (ms_ho c t k) < t then ms_ho c t k + 2 ^ k else ms_ho c t k := rfl
    have e1 := na_or1 (h := ms_ho c t k) (v := k) (by omega) h1
    obtain ⟨x, ih⟩ := mw_l hv hn ht hN hT c hc m (k + 1) (by omega)
    rw [eS] at ih
    by_cases hp : ms_pc (ms_ho c t k) < t
    · refine ⟨x, ?_⟩
      rw [mi_58_4]
      cases hA : ms_bit (I 51 0 3) k with
      | false =>
        rw [if_neg (fun z => by rw [hc, hA] at z; cases z.1)] at ih
        simp (disch := omega) only [↓mi_58_5, ↓mi_58_6, ↓mi_58_9, ↓mi_58_12, ↓mi_58_13, ↓mi_58_16, ↓mi_58_17, ↓mi_58_20, ↓mi_58_23, ↓mi_58_24, ↓mi_58_27, ↓mi_58_28, ↓mi_58_29, ↓mi_58_30, ↓mi_58_33, ↓mi_58_36, ↓mi_58_37, ↓mi_58_40, ↓mi_58_42, ↓mi_58_43, ↓mi_58_44, ↓mi_58_45, ↓mi_58_46, ↓mi_58_49, ↓mi_58_52, ↓mi_58_53, ↓mi_58_54, ↓mi_58_55, ↓mi_58_56, ↓mi_58_57, ↓mi_58_58, ↓mi_58_61, cond_true, mz_clv, mz_cln, Bool.false_or, Bool.true_or, Bool.or_false, Bool.or_true, if_true, if_false, ite_self, o0_51, hN, hT, na_le, na_up, if_neg, sp_43, sp_42, hA, if_pos b_f]
        exact ih
      | true =>
        cases hB : ms_bit (I 55 0 (17 * k)) v with
        | false =>
          rw [if_neg (fun z => by rw [hc, hA, hB] at z; cases z.1)] at ih
          simp (disch := omega) only [↓mi_58_5, ↓mi_58_6, ↓mi_58_9, ↓mi_58_12, ↓mi_58_13, ↓mi_58_16, ↓mi_58_17, ↓mi_58_20, ↓mi_58_23, ↓mi_58_24, ↓mi_58_27, ↓mi_58_28, ↓mi_58_29, ↓mi_58_30, ↓mi_58_33, ↓mi_58_36, ↓mi_58_37, ↓mi_58_40, ↓mi_58_42, ↓mi_58_43, ↓mi_58_44, ↓mi_58_45, ↓mi_58_46, ↓mi_58_49, ↓mi_58_52, ↓mi_58_53, ↓mi_58_54, ↓mi_58_55, ↓mi_58_56, ↓mi_58_57, ↓mi_58_58, ↓mi_58_61, cond_true, mz_clv, mz_cln, Bool.false_or, Bool.true_or, Bool.or_false, Bool.or_true, if_true, if_false, ite_self, o0_51, o0_55, hN, hT, na_le, na_up, pk_mul, if_neg, sp_43, sp_42, hA, hB, if_pos b_f, if_neg b_t]
          exact ih
        | true =>
          rw [if_pos ⟨by rw [hc, hA, hB]; rfl, hp⟩] at ih
          simp (disch := omega) only [↓mi_58_5, ↓mi_58_6, ↓mi_58_9, ↓mi_58_12, ↓mi_58_13, ↓mi_58_16, ↓mi_58_17, ↓mi_58_20, ↓mi_58_23, ↓mi_58_24, ↓mi_58_27, ↓mi_58_28, ↓mi_58_29, ↓mi_58_30, ↓mi_58_33, ↓mi_58_36, ↓mi_58_37, ↓mi_58_40, ↓mi_58_42, ↓mi_58_43, ↓mi_58_44, ↓mi_58_45, ↓mi_58_46, ↓mi_58_49, ↓mi_58_52, ↓mi_58_53, ↓mi_58_54, ↓mi_58_55, ↓mi_58_56, ↓mi_58_57, ↓mi_58_58, ↓mi_58_61, cond_true, mz_clv, mz_cln, Bool.false_or, Bool.true_or, Bool.or_false, Bool.or_true, if_true, if_false, ite_self, o0_51, o0_55, hN, hT, na_le, na_up, pk_mul, if_neg, sp_43, sp_42, hA, hB, if_neg b_t, e1]
          exact ih
    · refine ⟨nI k, ?_⟩
      rw [ho_st hp n (by omega), mi_58_4]
      simp (disch := omega) only [↓mi_58_5, ↓mi_58_6, ↓mi_58_9, ↓mi_58_12, ↓mi_58_13, ↓mi_58_16, ↓mi_58_17, ↓mi_58_20, cond_true, mz_clv, mz_cln, Bool.false_or, Bool.true_or, Bool.or_false, Bool.or_true, if_true, if_false, ite_self, hN, hT, na_le, if_neg, if_pos, sp_43]
theorem mj_i {h u n v : Nat} (hh : h < 256) (hu : u < 8) (hn : n ≤ 8) (hN : I 40 0 1 = nI n) {l9 : Value} : ∀ m k, m + k = n → ms_G 58 112 [.ref (ms_ad 40 0), .int (nI v), .int (nI h), .int (nI u), .long (lN (mj_A h u k % 2305843009213693951)), .null, .long (lN (mj_B h u k % 2305843009213693951)), .null, .int (nI k), l9] [] (ms_Z q true I J) = ms_G 58 187 [.ref (ms_ad 40 0), .int (nI v), .int (nI h), .int (nI u), .long (lN (mj_A h u n % 2305843009213693951)), .null, .long (lN (mj_B h u n % 2305843009213693951)), .null, .int (nI n), l9] [] (ms_Z q true I J)
  | 0, k, hk => by
    have : k = n := by omega
    subst this
    simp (disch := omega) only [↓mi_58_112, ↓mi_58_114, ↓mi_58_115, ↓mi_58_118, hN, na_le, if_pos]
  | m + 1, k, hk => by
    have ih := mj_i (v := v) (l9 := l9) hh hu hn hN m (k + 1) (by omega)
    have hb : ms_bit (nI h) k = ms_hb h k := bit_nI (by omega) k
    rw [mi_58_112]
    by_cases hkv : k = u
    · have eA : mj_A h u (k + 1) = mj_A h u k := if_neg (fun z => z.1 hkv)
      have eB : mj_B h u (k + 1) = mj_B h u k := if_neg (fun z => z.1 hkv)
      rw [eA, eB] at ih
      simp (disch := omega) only [↓mi_58_114, ↓mi_58_115, ↓mi_58_118, ↓mi_58_121, ↓mi_58_123, ↓mi_58_124, ↓mi_58_127, ↓mi_58_128, ↓mi_58_130, ↓mi_58_133, ↓mi_58_136, ↓mi_58_139, ↓mi_58_141, ↓mi_58_143, ↓mi_58_144, ↓mi_58_145, ↓mi_58_146, ↓mi_58_149, ↓mi_58_151, ↓mi_58_153, ↓mi_58_155, ↓mi_58_156, ↓mi_58_159, ↓mi_58_161, ↓mi_58_162, ↓mi_58_163, ↓mi_58_164, ↓mi_58_167, ↓mi_58_170, ↓mi_58_171, ↓mi_58_173, ↓mi_58_174, ↓mi_58_175, ↓mi_58_176, ↓mi_58_179, ↓mi_58_181, ↓mi_58_184, hN, na_le, na_eq, na_up, if_neg, if_pos hkv]
      exact ih
    · cases hc : ms_hb h k with
      | false =>
        have eA : mj_A h u (k + 1) = mj_A h u k := if_neg (fun z => by rw [hc] at z; cases z.2)
        have eB : mj_B h u (k + 1) = mj_B h u k := if_neg (fun z => by rw [hc] at z; cases z.2)
        rw [eA, eB] at ih
        simp (disch := omega) only [↓mi_58_114, ↓mi_58_115, ↓mi_58_118, ↓mi_58_121, ↓mi_58_123, ↓mi_58_124, ↓mi_58_127, ↓mi_58_128, ↓mi_58_130, ↓mi_58_133, ↓mi_58_136, ↓mi_58_139, ↓mi_58_141, ↓mi_58_143, ↓mi_58_144, ↓mi_58_145, ↓mi_58_146, ↓mi_58_149, ↓mi_58_151, ↓mi_58_153, ↓mi_58_155, ↓mi_58_156, ↓mi_58_159, ↓mi_58_161, ↓mi_58_162, ↓mi_58_163, ↓mi_58_164, ↓mi_58_167, ↓mi_58_170, ↓mi_58_171, ↓mi_58_173, ↓mi_58_174, ↓mi_58_175, ↓mi_58_176, ↓mi_58_179, ↓mi_58_181, ↓mi_58_184, cond_true, mz_clv, mz_cln, Bool.false_or, Bool.true_or, Bool.or_false, Bool.or_true, if_true, if_false, ite_self, hN, na_le, na_eq, na_up, if_neg, if_neg hkv, sp_42, hb, hc, if_pos b_f]
        exact ih
      | true =>
        have eA : mj_A h u (k + 1) = mj_A h u k * (k + 1) := if_pos ⟨hkv, hc⟩
        have eB : mj_B h u (k + 1) = mj_B h u k * ((k + 1 + 2305843009213693951 - (u + 1)) % 2305843009213693951) := if_pos ⟨hkv, hc⟩
        have l1 : (nI k).toInt64 = lN k := na_l (by omega)
        have x1 : mj_A h u k % 2305843009213693951 < 2305843009213693951 := Nat.mod_lt _ (by decide)
        have x2 : mj_B h u k % 2305843009213693951 < 2305843009213693951 := Nat.mod_lt _ (by decide)
        rw [eA, eB] at ih
        by_cases hg : k ≤ u
        · have l2 : (nI (u - k)).toInt64 = lN (u - k) := na_l (by omega)
          have e2 : (k + 1 + 2305843009213693951 - (u + 1)) % 2305843009213693951 = 2305843009213693951 - (u - k) := by omega
          rw [e2] at ih
          simp (disch := omega) only [↓mi_58_114, ↓mi_58_115, ↓mi_58_118, ↓mi_58_121, ↓mi_58_123, ↓mi_58_124, ↓mi_58_127, ↓mi_58_128, ↓mi_58_130, ↓mi_58_133, ↓mi_58_136, ↓mi_58_139, ↓mi_58_141, ↓mi_58_143, ↓mi_58_144, ↓mi_58_145, ↓mi_58_146, ↓mi_58_149, ↓mi_58_151, ↓mi_58_153, ↓mi_58_155, ↓mi_58_156, ↓mi_58_159, ↓mi_58_161, ↓mi_58_162, ↓mi_58_163, ↓mi_58_164, ↓mi_58_167, ↓mi_58_170, ↓mi_58_171, ↓mi_58_173, ↓mi_58_174, ↓mi_58_175, ↓mi_58_176, ↓mi_58_179, ↓mi_58_181, ↓mi_58_184, cond_true, mz_clv, mz_cln, Bool.false_or, Bool.true_or, Bool.or_false, Bool.or_true, if_true, if_false, ite_self, hN, na_le, na_eq, na_up, if_neg, if_pos, if_neg hkv, sp_42, hb, hc, if_neg b_t, l1, lN_add, pk_sub, l2, lN_sub, sp_21, Nat.mod_mul_mod]
          exact ih
        · have l2 : (nI (k - u)).toInt64 = lN (k - u) := na_l (by omega)
          have e2 : (k + 1 + 2305843009213693951 - (u + 1)) % 2305843009213693951 = k - u := by omega
          rw [e2] at ih
          simp (disch := omega) only [↓mi_58_114, ↓mi_58_115, ↓mi_58_118, ↓mi_58_121, ↓mi_58_123, ↓mi_58_124, ↓mi_58_127, ↓mi_58_128, ↓mi_58_130, ↓mi_58_133, ↓mi_58_136, ↓mi_58_139, ↓mi_58_141, ↓mi_58_143, ↓mi_58_144, ↓mi_58_145, ↓mi_58_146, ↓mi_58_149, ↓mi_58_151, ↓mi_58_153, ↓mi_58_155, ↓mi_58_156, ↓mi_58_159, ↓mi_58_161, ↓mi_58_162, ↓mi_58_163, ↓mi_58_164, ↓mi_58_167, ↓mi_58_170, ↓mi_58_171, ↓mi_58_173, ↓mi_58_174, ↓mi_58_175, ↓mi_58_176, ↓mi_58_179, ↓mi_58_181, ↓mi_58_184, cond_true, mz_clv, mz_cln, Bool.false_or, Bool.true_or, Bool.or_false, Bool.or_true, if_true, if_false, ite_self, hN, na_le, na_eq, na_up, if_neg, if_neg hkv, sp_42, hb, hc, if_neg b_t, l1, lN_add, pk_sub, l2, sp_21, Nat.mod_mul_mod]
          exact ih
theorem mj_o {h n v : Nat} (hh : h < 2 ^ n) (hv : v < 8) (hn : n ≤ 8) (hN : I 40 0 1 = nI n) {f : Nat → Int64} : ∀ m u l4 l5 l6 l7 l8 l9, m + u = n → ms_G 58 84 [.ref (ms_ad 40 0), .int (nI v), .int (nI h), .int (nI u), l4, l5, l6, l7, l8, l9] [] (ms_Z q true I (ms_u J 40 0 (vp_updL f 32 (lN (mj_T h (fun u => ms_num (I 55 0 (17 * u + 1 + 2 * v)) (I 55 0 (17 * u + 2 + 2 * v))) u % 2305843009213693951))))) = some (.inl (some (.int (nI 1))), ms_Z q true I (ms_u J 40 0 (vp_updL f 32 (lN (mj_T h (fun u => ms_num (I 55 0 (17 * u + 1 + 2 * v)) (I 55 0 (17 * u + 2 + 2 * v))) n % 2305843009213693951)))))
  | 0, u, l4, l5, l6, l7, l8, l9, hu => by
    have : u = n := by omega
    subst this
    simp (disch := omega) only [↓mi_58_84, ↓mi_58_85, ↓mi_58_86, ↓mi_58_89, ↓mi_58_257, ↓mi_58_258, ↓mi_58_258_1, ↓mi_58_258_b, hN, na_le, if_pos]
  | m + 1, u, l4, l5, l6, l7, l8, l9, hu => by
    have h8 := p2_8 hn
    have hb : ms_bit (nI h) u = ms_hb h u := bit_nI (by omega) u
    obtain ⟨num, en⟩ : ∃ num : Nat → Nat, num = fun u => ms_num (I 55 0 (17 * u + 1 + 2 * v)) (I 55 0 (17 * u + 2 + 2 * v)) := ⟨_, rfl⟩
    have enu : ms_num (I 55 0 (17 * u + 1 + 2 * v)) (I 55 0 (17 * u + 2 + 2 * v)) = num u := by rw [en]
    have hnum : num u < 2305843009213693951 := by rw [en]; exact ms_num_lt _ _
    have ih := fun l4 l5 l6 l7 l8 l9 => mj_o hh hv hn hN (f := f) m (u + 1) l4 l5 l6 l7 l8 l9 (by omega)
    rw [← en] at ih ⊢
    rw [mi_58_84]
    cases hc : ms_hb h u with
    | false =>
      have eT : mj_T h num (u + 1) = mj_T h num u := if_neg (fun z => by rw [hc] at z; cases z)
      rw [eT] at ih
      simp (disch := omega) only [↓mi_58_85, ↓mi_58_86, ↓mi_58_89, ↓mi_58_92, ↓mi_58_93, ↓mi_58_94, ↓mi_58_97, ↓mi_58_100, ↓mi_58_251, ↓mi_58_254, cond_true, mz_clv, mz_cln, Bool.false_or, Bool.true_or, Bool.or_false, Bool.or_true, if_true, if_false, ite_self, hN, na_le, na_up, if_neg, sp_42, hb, hc, if_pos b_f]
      exact ih _ _ _ _ _ _
    | true =>
      have eT : mj_T h num (u + 1) = mj_T h num u + num u * mj_A h u 8 * ms_pw (mj_B h u 8) 2305843009213693949 := if_pos hc
      rw [A_hi hh u 8 hn, B_hi hh u 8 hn] at eT
      rw [eT] at ih
      have hi := mj_i (q := q) (I := I) (J := ms_u J 40 0 (vp_updL f 32 (lN (mj_T h num u % 2305843009213693951)))) (h := h) (u := u) (v := v) (l9 := l9) (by omega) (by omega) hn hN n 0 rfl
      rw [show mj_A h u 0 % 2305843009213693951 = 1 from rfl, show mj_B h u 0 % 2305843009213693951 = 1 from rfl] at hi
      have x1 : mj_A h u n % 2305843009213693951 < 2305843009213693951 := Nat.mod_lt _ (by decide)
      have x2 : mj_B h u n % 2305843009213693951 < 2305843009213693951 := Nat.mod_lt _ (by decide)
      have x3 := ms_pw_lt (mj_B h u n) 2305843009213693949
      have x4 : mj_A h u n % 2305843009213693951 * ms_pw (mj_B h u n) 2305843009213693949 % 2305843009213693951 < 2305843009213693951 := Nat.mod_lt _ (by decide)
      have x5 : mj_T h num u % 2305843009213693951 < 2305843009213693951 := Nat.mod_lt _ (by decide)
      have x6 : num u * mj_A h u n * ms_pw (mj_B h u n) 2305843009213693949 % 2305843009213693951 < 2305843009213693951 := Nat.mod_lt _ (by decide)
      simp (disch := omega) only [↓mi_58_85, ↓mi_58_86, ↓mi_58_89, ↓mi_58_92, ↓mi_58_93, ↓mi_58_94, ↓mi_58_97, ↓mi_58_100, ↓mi_58_103, ↓mi_58_104, ↓mi_58_106, ↓mi_58_107, ↓mi_58_109, ↓mi_58_110, cond_true, mz_clv, mz_cln, Bool.false_or, Bool.true_or, Bool.or_false, Bool.or_true, if_true, if_false, ite_self, hN, na_le, na_up, if_neg, sp_42, hb, hc, if_neg b_t]
      rw [hi]
      simp (disch := omega) only [↓mi_58_187, ↓mi_58_189, ↓mi_58_191, ↓mi_58_194, ↓mi_58_197, ↓mi_58_200, ↓mi_58_202, ↓mi_58_203, ↓mi_58_204, ↓mi_58_207, ↓mi_58_209, ↓mi_58_210, ↓mi_58_213, ↓mi_58_215, ↓mi_58_216, ↓mi_58_217, ↓mi_58_218, ↓mi_58_219, ↓mi_58_220, ↓mi_58_221, ↓mi_58_222, ↓mi_58_223, ↓mi_58_224, ↓mi_58_225, ↓mi_58_228, ↓mi_58_230, ↓mi_58_231, ↓mi_58_232, ↓mi_58_233, ↓mi_58_234, ↓mi_58_235, ↓mi_58_236, ↓mi_58_237, ↓mi_58_238, ↓mi_58_239, ↓mi_58_242, ↓mi_58_245, ↓mi_58_248, ↓mi_58_251, ↓mi_58_254, cond_true, mz_clv, mz_cln, Bool.false_or, Bool.true_or, Bool.or_false, Bool.or_true, if_true, if_false, ite_self, ms_u_s, ms_u_r, ms_u_i, ms_u_u, o0_55, na_up, pk_mul, sp_22w, ms_pw_mod, sp_21, sp_23, enu, md_jn, sp_20, md_add, pk_uLs, uL_uL]
      exact ih _ _ _ _ _ _
theorem sp_58n {v t n : Nat} (hv : v < 8) (hn : n ≤ 8) (ht : t ≤ 8) (hN : I 40 0 1 = nI n) (hT : I 40 0 2 = nI t) (c : Nat → Bool) (hc : ∀ u, c u = (ms_bit (I 51 0 3) u && ms_bit (I 55 0 (17 * u)) v)) (hp : ms_pc (ms_ho c t n) < t) : ms_G 58 0 [.ref (ms_ad 40 0), .int (nI v), .null, .null, .null, .null, .null, .null, .null, .null] [] (ms_Z q false I J) = some (.inl (some (.int (nI 0))), ms_Z q false I J) := by
  obtain ⟨x, h⟩ := mw_l (q := q) (J := J) hv hn ht hN hT c hc n 0 rfl
  have h1 := ho_lt c t n
  have h2 := p2_8 (k := n) (by omega)
  have h3 := pc_le (ms_ho c t n)
  simp only [↓mi_58_0, ↓mi_58_1, ↓mi_58_2, ↓mi_58_3]
  refine Eq.trans h ?_
  simp (disch := omega) only [↓mi_58_64, ↓mi_58_65, ↓mi_58_68, ↓mi_58_69, ↓mi_58_72, ↓mi_58_75, ↓mi_58_76, ↓mi_58_76_1, ↓mi_58_76_b, cond_true, mz_clv, mz_cln, Bool.false_or, Bool.true_or, Bool.or_false, Bool.or_true, if_true, if_false, ite_self, hT, na_le, if_neg, sp_43]
theorem sp_58y {v t n : Nat} (hv : v < 8) (hn : n ≤ 8) (ht : t ≤ 8) (hN : I 40 0 1 = nI n) (hT : I 40 0 2 = nI t) (c : Nat → Bool) (hc : ∀ u, c u = (ms_bit (I 51 0 3) u && ms_bit (I 55 0 (17 * u)) v)) (hp : ¬ ms_pc (ms_ho c t n) < t) : ms_G 58 0 [.ref (ms_ad 40 0), .int (nI v), .null, .null, .null, .null, .null, .null, .null, .null] [] (ms_Z q false I J) = some (.inl (some (.int (nI 1))), ms_Z q true I (ms_u J 40 0 (vp_updL (J 40 0) 32 (lN (mj_T (ms_ho c t n) (fun u => ms_num (I 55 0 (17 * u + 1 + 2 * v)) (I 55 0 (17 * u + 2 + 2 * v))) n % 2305843009213693951))))) := by
  obtain ⟨x, h⟩ := mw_l (q := q) (J := J) hv hn ht hN hT c hc n 0 rfl
  have h1 := ho_lt c t n
  have h2 := p2_8 (k := n) (by omega)
  have h3 := pc_le (ms_ho c t n)
  have h4 := mj_o (q := q) (J := J) h1 hv hn hN (f := J 40 0) n 0 .null .null .null .null .null .null rfl
  simp only [↓mi_58_0, ↓mi_58_1, ↓mi_58_2, ↓mi_58_3]
  refine Eq.trans h ?_
  simp (disch := omega) only [↓mi_58_64, ↓mi_58_65, ↓mi_58_68, ↓mi_58_69, ↓mi_58_72, ↓mi_58_77, ↓mi_58_78, ↓mi_58_79, ↓mi_58_82, ↓mi_58_83, cond_true, mz_clv, mz_cln, Bool.false_or, Bool.true_or, Bool.or_false, Bool.or_true, if_true, if_false, ite_self, hT, na_le, if_pos, sp_43]
  exact h4
end Hold
