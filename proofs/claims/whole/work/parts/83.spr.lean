/-! THE MODEL'S: limbs out of words, carries. -/
def ms_n128 (f : Nat → Int32) (e : Nat) : Nat := mU (f 0) + mU (f 1) * 4294967296 + mU (f 2) * 18446744073709551616 + mU (f 3) * 79228162514264337593543950336 + e * 340282366920938463463374607431768211456
theorem nn_digit (f : Nat → Int32) (e : Nat) : ∀ k, k < 4 → ms_n128 f e / 2 ^ (32 * k) % 2 ^ 32 = mU (f k) := by
  have h0 := mU_lt (f 0)
  have h1 := mU_lt (f 1)
  have h2 := mU_lt (f 2)
  have h3 := mU_lt (f 3)
  intro k hk
  unfold ms_n128
  match k, hk with
  | 0, _ => omega
  | 1, _ => omega
  | 2, _ => omega
  | 3, _ => omega
theorem nn_bit (f : Nat → Int32) (e : Nat) {p : Nat} (hp : p < 128) : mU (f (p / 32)) / 2 ^ (p % 32) % 2 = ms_n128 f e / 2 ^ p % 2 := by
  have h := md_bitl (b := 32) (ms_n128 f e) (p / 32) (p % 32) (Nat.mod_lt _ (by decide))
  rw [nn_digit f e (p / 32) (by omega), show 32 * (p / 32) + p % 32 = p by omega] at h
  exact h
theorem nn_top (f : Nat → Int32) {e : Nat} (he : e < 2) : ms_n128 f e / 2 ^ 128 % 2 = e ∧ ms_n128 f e < 2 ^ 129 := by
  have h0 := mU_lt (f 0)
  have h1 := mU_lt (f 1)
  have h2 := mU_lt (f 2)
  have h3 := mU_lt (f 3)
  unfold ms_n128
  omega
theorem na_ushrU (x : Int32) {k : Nat} (hk : k < 32) : (x.toUInt32 >>> ((nI k).toUInt32 &&& Int32.toUInt32 31)).toInt32 = nI (mU x / 2 ^ k) := by
  have h := na_ushr (mU_lt x) hk
  rw [nI_mU] at h
  exact h
theorem na_a1 {n : Nat} (h : n < 4294967296) : nI n &&& nI 1 = nI (n % 2) := pk_andN h 1 (by decide)
theorem na_l2 (n : Nat) : (nI (n % 2)).toInt64 = lN (n % 2) := na_l (by omega)
section Spr
variable {q : Nat × Nat} {w : Bool} {I : ms_i} {J : ms_j} {σ : ms_M}
theorem sd_b {r e p : Nat} (he : e < 2) (hp : p < 130) {l3 l4 l5 l6 l8 l9 : Value} : ms_G 28 30 [.ref r, .ref (ms_ad 63 0), .int (nI e), l3, l4, l5, l6, .int (nI p), l8, l9] [] (ms_Z q w I J) = ms_G 28 71 [.ref r, .ref (ms_ad 63 0), .int (nI e), l3, l4, l5, l6, .int (nI p), l8, l9] [.long (lN (ms_n128 (I 63 0) e / 2 ^ p % 2))] (ms_Z q w I J) := by
  obtain ⟨ht, hN⟩ := nn_top (I 63 0) he
  by_cases h1 : p < 128
  · have hl := mU_lt (I 63 0 (p / 32))
    have hd : mU (I 63 0 (p / 32)) / 2 ^ (p % 32) ≤ mU (I 63 0 (p / 32)) := Nat.div_le_self _ _
    simp (disch := omega) only [↓mi_28_30, ↓mi_28_32, ↓mi_28_35, ↓mi_28_38, ↓mi_28_39, ↓mi_28_41, ↓mi_28_43, ↓mi_28_44, ↓mi_28_45, ↓mi_28_47, ↓mi_28_49, ↓mi_28_50, ↓mi_28_51, ↓mi_28_52, ↓mi_28_53, ↓mi_28_54, ↓mi_28_57, ↓mi_28_59, ↓mi_28_62, ↓mi_28_65, ↓mi_28_66, ↓mi_28_67, cond_true, mz_clv, mz_cln, Bool.false_or, Bool.true_or, Bool.or_false, Bool.or_true, if_true, if_false, ite_self, o0_63, na_le, if_neg, pk_div, na_rem2, na_ushrU, na_a1, na_l2, nn_bit (I 63 0) e h1]
  · by_cases h2 : p = 128
    · subst h2
      have hl : (nI e).toInt64 = lN e := na_l (by omega)
      simp (disch := omega) only [↓mi_28_30, ↓mi_28_32, ↓mi_28_35, ↓mi_28_38, ↓mi_28_39, ↓mi_28_41, ↓mi_28_43, ↓mi_28_44, ↓mi_28_45, ↓mi_28_47, ↓mi_28_49, ↓mi_28_50, ↓mi_28_51, ↓mi_28_52, ↓mi_28_53, ↓mi_28_54, ↓mi_28_57, ↓mi_28_59, ↓mi_28_62, ↓mi_28_65, ↓mi_28_66, ↓mi_28_67, cond_true, mz_clv, mz_cln, Bool.false_or, Bool.true_or, Bool.or_false, Bool.or_true, if_true, if_false, ite_self, na_le, if_pos, hl, ht]
    · have h3 : p = 129 := by omega
      subst h3
      rw [show ms_n128 (I 63 0) e / 2 ^ 129 = 0 from Nat.div_eq_of_lt hN]
      simp (disch := omega) only [↓mi_28_30, ↓mi_28_32, ↓mi_28_35, ↓mi_28_38, ↓mi_28_39, ↓mi_28_41, ↓mi_28_43, ↓mi_28_44, ↓mi_28_45, ↓mi_28_47, ↓mi_28_49, ↓mi_28_50, ↓mi_28_51, ↓mi_28_52, ↓mi_28_53, ↓mi_28_54, ↓mi_28_57, ↓mi_28_59, ↓mi_28_62, ↓mi_28_65, ↓mi_28_66, ↓mi_28_67, ↓mi_28_70, cond_true, mz_clv, mz_cln, Bool.false_or, Bool.true_or, Bool.or_false, Bool.or_true, if_true, if_false, ite_self, na_le, na_eq, if_pos, if_neg]
theorem sd_i {r e k i : Nat} (he : e < 2) (hk : k < 10) (hi : i < 13) {l7 l8 l9 : Value} : ms_G 28 14 [.ref r, .ref (ms_ad 63 0), .int (nI e), .int (nI k), .long (lN (ms_n128 (I 63 0) e / 2 ^ (13 * k) % 2 ^ i)), .null, .int (nI i), l7, l8, l9] [] (ms_Z q w I J) = ms_G 28 14 [.ref r, .ref (ms_ad 63 0), .int (nI e), .int (nI k), .long (lN (ms_n128 (I 63 0) e / 2 ^ (13 * k) % 2 ^ (i + 1))), .null, .int (nI (i + 1)), .int (nI (13 * k + i)), .long (lN (ms_n128 (I 63 0) e / 2 ^ (13 * k + i) % 2)), .null] [] (ms_Z q w I J) := by
  have hb := sd_b (q := q) (w := w) (I := I) (J := J) (r := r) (e := e) (p := 13 * k + i) he (by omega) (l3 := .int (nI k)) (l4 := .long (lN (ms_n128 (I 63 0) e / 2 ^ (13 * k) % 2 ^ i))) (l5 := .null) (l6 := .int (nI i)) (l8 := l8) (l9 := l9)
  rw [mi_28_14]
  simp (disch := omega) only [↓mi_28_16, ↓mi_28_18, ↓mi_28_21, ↓mi_28_23, ↓mi_28_24, ↓mi_28_25, ↓mi_28_27, ↓mi_28_28, na_le, na_up, pk_mul, if_neg]
  rw [hb]
  have e1 : ms_n128 (I 63 0) e / 2 ^ (13 * k + i) % 2 = ms_n128 (I 63 0) e / 2 ^ (13 * k) / 2 ^ i % 2 := by rw [Nat.pow_add, Nat.div_div_eq_div_mul]
  have hv : ms_n128 (I 63 0) e / 2 ^ (13 * k) % 2 ^ i < 2 ^ i := Nat.mod_lt _ (Nat.two_pow_pos i)
  have hp : (2 : Nat) ^ i ≤ 2 ^ 13 := Nat.pow_le_pow_right (by decide) (by omega)
  have hb2 : ms_n128 (I 63 0) e / 2 ^ (13 * k + i) % 2 * 2 ^ i ≤ 1 * 2 ^ 13 := Nat.mul_le_mul (by omega) hp
  have hor : lN (ms_n128 (I 63 0) e / 2 ^ (13 * k) % 2 ^ i) ||| lN (ms_n128 (I 63 0) e / 2 ^ (13 * k + i) % 2 * 2 ^ i) = lN (ms_n128 (I 63 0) e / 2 ^ (13 * k) % 2 ^ (i + 1)) := by
    rw [g_or' (k := i) rfl hv (by omega), md_lowb, e1]
  simp (disch := omega) only [↓mi_28_71, ↓mi_28_73, ↓mi_28_75, ↓mi_28_77, ↓mi_28_79, ↓mi_28_80, ↓mi_28_81, ↓mi_28_83, ↓mi_28_86, wb_shl, hor, na_up]
theorem sd_v {r e k : Nat} (he : e < 2) (hk : k < 10) : ∀ m i l7 l8 l9, m + i = 13 → ∃ l7' l8' l9', ms_G 28 14 [.ref r, .ref (ms_ad 63 0), .int (nI e), .int (nI k), .long (lN (ms_n128 (I 63 0) e / 2 ^ (13 * k) % 2 ^ i)), .null, .int (nI i), l7, l8, l9] [] (ms_Z q w I J) = ms_G 28 89 [.ref r, .ref (ms_ad 63 0), .int (nI e), .int (nI k), .long (lN (ms_n128 (I 63 0) e / 2 ^ (13 * k) % 2 ^ 13)), .null, .int (nI 13), l7', l8', l9'] [] (ms_Z q w I J)
  | 0, i, l7, l8, l9, hi => by
    have : i = 13 := by omega
    subst this
    refine ⟨l7, l8, l9, ?_⟩
    simp (disch := omega) only [↓mi_28_14, ↓mi_28_16, ↓mi_28_18, na_le, if_pos]
  | m + 1, i, l7, l8, l9, hi => by
    rw [sd_i he hk (by omega)]
    exact sd_v he hk m (i + 1) _ _ _ (by omega)
def ms_sp (k N : Nat) (g : Nat → Nat) : Nat → Nat := fun i => if i < k then N / 2 ^ (13 * i) % 2 ^ 13 else g i
theorem ms_sp_s (k N : Nat) (g : Nat → Nat) : ms_uN (ms_sp k N g) k (N / 2 ^ (13 * k) % 2 ^ 13) = ms_sp (k + 1) N g := by
  funext i
  unfold ms_uN ms_sp
  by_cases hk : i = k
  · subst hk
    simp
  · by_cases h2 : i < k
    · simp [hk, h2, Nat.lt_succ_of_lt h2]
    · simp [hk, h2, show ¬ i < k + 1 by omega]
theorem sd_o {r e : Nat} (he : e < 2) (ho : ∀ i, i < 10 → mo_1 q.1 r 0 i = true) {g : Nat → Nat} : ∀ m k l4 l6 l7 l8 l9 w, m + k = 10 → ms_G 28 2 [.ref (ms_ad r 0), .ref (ms_ad 63 0), .int (nI e), .int (nI k), l4, .null, l6, l7, l8, l9] [] (ms_Z q w I (ms_u J r 0 (ms_mL (ms_sp k (ms_n128 (I 63 0) e) g)))) = some (.inl none, ms_Z q (w || decide (0 < m)) I (ms_u J r 0 (ms_mL (ms_sp 10 (ms_n128 (I 63 0) e) g))))
  | 0, k, l4, l6, l7, l8, l9, w, hk => by
    have : k = 10 := by omega
    subst this
    simp (disch := omega) only [↓mi_28_2, ↓mi_28_3, ↓mi_28_5, ↓mi_28_100, na_le, if_pos, Nat.lt_irrefl, decide_false, Bool.or_false]
  | m + 1, k, l4, l6, l7, l8, l9, w, hk => by
    have hok := ho k (by omega)
    rw [mi_28_2]
    simp (disch := omega) only [↓mi_28_3, ↓mi_28_5, ↓mi_28_8, ↓mi_28_9, ↓mi_28_11, ↓mi_28_12, na_le, if_neg]
    obtain ⟨a7, a8, a9, h⟩ := sd_v (q := q) (w := w) (I := I) (J := ms_u J r 0 (ms_mL (ms_sp k (ms_n128 (I 63 0) e) g))) (r := ms_ad r 0) (e := e) (k := k) he (by omega) 13 0 l7 l8 l9 rfl
    rw [Nat.pow_zero, Nat.mod_one] at h
    rw [h]
    simp (disch := omega) only [↓mi_28_89, ↓mi_28_90, ↓mi_28_91, ↓mi_28_93, ↓mi_28_94, ↓mi_28_97, cond_true, mz_clv, mz_cln, Bool.false_or, Bool.true_or, Bool.or_false, Bool.or_true, if_true, if_false, ite_self, ms_u_s, ms_u_r, ms_u_i, ms_u_u, hok, na_up, mL_upd, ms_sp_s]
    exact (sd_o he ho m (k + 1) _ _ _ _ _ true (by omega)).trans (by simp)
theorem sp_28 {r e : Nat} (he : e < 2) (ho : ∀ i, i < 10 → mo_1 q.1 r 0 i = true) {g : Nat → Nat} (hJ : J r 0 = ms_mL g) : ms_G 28 0 [.ref (ms_ad r 0), .ref (ms_ad 63 0), .int (nI e), .null, .null, .null, .null, .null, .null, .null] [] (ms_Z q false I J) = some (.inl none, ms_Z q true I (ms_u J r 0 (ms_mL (ms_sp 10 (ms_n128 (I 63 0) e) g)))) := by
  have h := sd_o (q := q) (I := I) (J := J) (r := r) he ho (g := g) 10 0 .null .null .null .null .null false rfl
  have e0 : ms_sp 0 (ms_n128 (I 63 0) e) g = g := by
    funext i
    exact if_neg (Nat.not_lt_zero i)
  have e1 := ms_u_id J r 0
  rw [hJ] at e1
  rw [e0, e1] at h
  simp only [↓mi_28_0, ↓mi_28_1]
  exact h
-- carries
theorem mp_o3_lt {h : Nat → Nat} {c B : Nat} (hc : c ≤ B) (hB : B < 4294967296) (hb : ∀ i, i < 10 → h i < 1099511627776) : ∀ k, k ≤ 10 → mp_o3 h c k < 4294967296
  | 0, _ => by show c < _; omega
  | k + 1, hk => by
    have h1 := mp_o3_lt hc hB hb k (by omega)
    have h2 := hb k (by omega)
    show (h k + mp_o3 h c k) / 8192 < _
    omega
theorem st_l {h : Nat → Nat} (hb : ∀ i, i < 10 → h i < 1099511627776) : ∀ m k w, m + k = 10 → ms_G 30 4 [.ref (ms_ad 40 0), .long (lN (mp_o3 h 0 k)), .null, .int (nI k)] [] (ms_Z q w I (ms_u J 60 0 (ms_mL (mp_c3 k h 0)))) = some (.inl none, ms_Z q true I (ms_u J 60 0 (ms_mL (ms_uN (mp_c3 10 h 0) 0 (mp_c3 10 h 0 0 + 5 * mp_o3 h 0 10)))))
  | 0, k, w, hk => by
    have : k = 10 := by omega
    subst this
    simp (disch := omega) only [↓mi_30_4, ↓mi_30_5, ↓mi_30_7, ↓mi_30_41, ↓mi_30_42, ↓mi_30_45, ↓mi_30_46, ↓mi_30_47, ↓mi_30_48, ↓mi_30_51, ↓mi_30_52, ↓mi_30_53, ↓mi_30_54, ↓mi_30_55, cond_true, mz_clv, mz_cln, Bool.false_or, Bool.true_or, Bool.or_false, Bool.or_true, if_true, if_false, ite_self, ms_u_s, ms_u_r, ms_u_i, ms_u_u, o1_60, na_le, if_pos, mL_at, mL_upd, lN_add, lN_mul]
  | m + 1, k, w, hk => by
    have h1 := mp_o3_lt (c := 0) (B := 0) (Nat.le_refl _) (by decide) hb k (by omega)
    have h2 := hb k (by omega)
    have e13 : (2 : Nat) ^ 13 = 8192 := rfl
    rw [mi_30_4]
    simp (disch := omega) only [↓mi_30_5, ↓mi_30_7, ↓mi_30_10, ↓mi_30_11, ↓mi_30_12, ↓mi_30_15, ↓mi_30_16, ↓mi_30_17, ↓mi_30_18, ↓mi_30_19, ↓mi_30_20, ↓mi_30_23, ↓mi_30_24, ↓mi_30_25, ↓mi_30_28, ↓mi_30_29, ↓mi_30_30, ↓mi_30_31, ↓mi_30_33, ↓mi_30_34, ↓mi_30_35, ↓mi_30_38, cond_true, mz_clv, mz_cln, Bool.false_or, Bool.true_or, Bool.or_false, Bool.or_true, if_true, if_false, ite_self, ms_u_s, ms_u_r, ms_u_i, ms_u_u, o1_60, na_le, na_up, if_neg, mL_at, mL_upd, lN_add, c3_k, la_m13, la_shr, e13]
    rw [show mp_o3 h 0 k + h k = h k + mp_o3 h 0 k from Nat.add_comm _ _, c3_s]
    exact st_l hb m (k + 1) true (by omega)
def mp_st (h : Nat → Nat) : Nat → Nat := ms_uN (mp_c3 10 h 0) 0 (mp_c3 10 h 0 0 + 5 * mp_o3 h 0 10)
theorem sp_30 {h : Nat → Nat} (hJ : J 60 0 = ms_mL h) (hb : ∀ i, i < 10 → h i < 1099511627776) : ms_G 30 0 [.ref (ms_ad 40 0), .null, .null, .null] [] (ms_Z q false I J) = some (.inl none, ms_Z q true I (ms_u J 60 0 (ms_mL (mp_st h)))) := by
  have h1 := st_l (q := q) (I := I) (J := J) hb 10 0 false rfl
  have e := ms_u_id J 60 0
  rw [hJ] at e
  rw [c3_0, e] at h1
  simp only [↓mi_30_0, ↓mi_30_1, ↓mi_30_2, ↓mi_30_3]
  exact h1
theorem s3_l {h : Nat → Nat} (hb : ∀ i, i < 10 → h i < 1099511627776) : ∀ m k w, m + k = 10 → ms_G 32 4 [.ref (ms_ad 40 0), .long (lN (mp_o3 h 0 k)), .null, .int (nI k)] [] (ms_Z q w I (ms_u J 60 0 (ms_mL (mp_c3 k h 0)))) = some (.inl none, ms_Z q (w || decide (0 < m)) I (ms_u J 60 0 (ms_mL (mp_c3 10 h 0))))
  | 0, k, w, hk => by
    have : k = 10 := by omega
    subst this
    simp (disch := omega) only [↓mi_32_4, ↓mi_32_5, ↓mi_32_7, ↓mi_32_41, na_le, if_pos, Nat.lt_irrefl, decide_false, Bool.or_false]
  | m + 1, k, w, hk => by
    have h1 := mp_o3_lt (c := 0) (B := 0) (Nat.le_refl _) (by decide) hb k (by omega)
    have h2 := hb k (by omega)
    have e13 : (2 : Nat) ^ 13 = 8192 := rfl
    rw [mi_32_4]
    simp (disch := omega) only [↓mi_32_5, ↓mi_32_7, ↓mi_32_10, ↓mi_32_11, ↓mi_32_12, ↓mi_32_15, ↓mi_32_16, ↓mi_32_17, ↓mi_32_18, ↓mi_32_19, ↓mi_32_20, ↓mi_32_23, ↓mi_32_24, ↓mi_32_25, ↓mi_32_28, ↓mi_32_29, ↓mi_32_30, ↓mi_32_31, ↓mi_32_33, ↓mi_32_34, ↓mi_32_35, ↓mi_32_38, cond_true, mz_clv, mz_cln, Bool.false_or, Bool.true_or, Bool.or_false, Bool.or_true, if_true, if_false, ite_self, ms_u_s, ms_u_r, ms_u_i, ms_u_u, o1_60, na_le, na_up, if_neg, mL_at, mL_upd, lN_add, c3_k, la_m13, la_shr, e13]
    rw [show mp_o3 h 0 k + h k = h k + mp_o3 h 0 k from Nat.add_comm _ _, c3_s]
    exact (s3_l hb m (k + 1) true (by omega)).trans (by simp)
theorem sp_32 {h : Nat → Nat} (hJ : J 60 0 = ms_mL h) (hb : ∀ i, i < 10 → h i < 1099511627776) : ms_G 32 0 [.ref (ms_ad 40 0), .null, .null, .null] [] (ms_Z q false I J) = some (.inl none, ms_Z q true I (ms_u J 60 0 (ms_mL (mp_c3 10 h 0)))) := by
  have h1 := s3_l (q := q) (I := I) (J := J) hb 10 0 false rfl
  have e := ms_u_id J 60 0
  rw [hJ] at e
  rw [c3_0, e] at h1
  simp only [↓mi_32_0, ↓mi_32_1, ↓mi_32_2, ↓mi_32_3]
  exact h1
end Spr
