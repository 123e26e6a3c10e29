/-! POLY1305, THE CLASS'S: limbs out of words; filling; words out of limbs. -/
theorem la_hi2 (n : Nat) : lN (n * 2 ^ 12) = lN (n % 4503599627370496 * 4096) := by
  rw [wb_mod (n * 2 ^ 12), wb_mod (n % 4503599627370496 * 4096)]
  have : n * 2 ^ 12 % 2 ^ 64 = n % 4503599627370496 * 4096 % 2 ^ 64 := by omega
  rw [this]
theorem la_or12 {a b : Nat} (ha : a < 4096) (hb : b < 4503599627370496) : lN a ||| lN (b * 4096) = lN (a + b * 4096) := g_or' (k := 12) (by decide) ha (by omega)
def ms_al (h : Nat → Nat) (lo hi : Nat) : Nat → Nat := ms_uN (ms_uN (ms_uN (ms_uN (ms_uN h 0 (h 0 + lo % 67108864)) 1 (h 1 + lo / 67108864 % 67108864)) 2 (h 2 + (lo / 4503599627370496 + hi % 4503599627370496 * 4096) % 67108864)) 3 (h 3 + hi / 16384 % 67108864)) 4 (h 4 + hi / 1099511627776)
section Pol2
variable {q : Nat × Nat} {w : Bool} {I : ms_i} {J : ms_j} {σ : ms_M}
theorem sp_108 {r : Nat} {h : Nat → Nat} (hJ : J r 0 = ms_mL h) (ho : ∀ i, i < 5 → mo_1 q.1 r 0 i = true) {w0 w1 w2 w3 : Nat} (h0 : w0 < 4294967296) (h1 : w1 < 4294967296) (h2 : w2 < 4294967296) (h3 : w3 < 4294967296) : ms_G 108 0 [.ref (ms_ad r 0), .int (nI w0), .int (nI w1), .int (nI w2), .int (nI w3), .null, .null, .null, .null] [] (ms_Z q false I J) = some (.inl none, ms_Z q true I (ms_u J r 0 (ms_mL (ms_al h (w1 * 4294967296 + w0) (w3 * 4294967296 + w2))))) := by
  have e26 : (2 : Nat) ^ 26 = 67108864 := rfl
  have e52 : (2 : Nat) ^ 52 = 4503599627370496 := rfl
  have e14 : (2 : Nat) ^ 14 = 16384 := rfl
  have e40 : (2 : Nat) ^ 40 = 1099511627776 := rfl
  have o0 := ho 0 (by decide)
  have o1 := ho 1 (by decide)
  have o2 := ho 2 (by decide)
  have o3 := ho 3 (by decide)
  have o4 := ho 4 (by decide)
  simp (disch := omega) only [↓mi_108_0, ↓mi_108_1, ↓mi_108_2, ↓mi_108_4, ↓mi_108_5, ↓mi_108_6, ↓mi_108_7, ↓mi_108_10, ↓mi_108_11, ↓mi_108_12, ↓mi_108_14, ↓mi_108_16, ↓mi_108_17, ↓mi_108_19, ↓mi_108_20, ↓mi_108_21, ↓mi_108_22, ↓mi_108_25, ↓mi_108_26, ↓mi_108_27, ↓mi_108_29, ↓mi_108_30, ↓mi_108_31, ↓mi_108_32, ↓mi_108_33, ↓mi_108_35, ↓mi_108_38, ↓mi_108_39, ↓mi_108_40, ↓mi_108_41, ↓mi_108_42, ↓mi_108_43, ↓mi_108_44, ↓mi_108_45, ↓mi_108_47, ↓mi_108_49, ↓mi_108_50, ↓mi_108_53, ↓mi_108_54, ↓mi_108_55, ↓mi_108_56, ↓mi_108_57, ↓mi_108_58, ↓mi_108_59, ↓mi_108_60, ↓mi_108_62, ↓mi_108_64, ↓mi_108_65, ↓mi_108_67, ↓mi_108_69, ↓mi_108_70, ↓mi_108_71, ↓mi_108_74, ↓mi_108_75, ↓mi_108_76, ↓mi_108_77, ↓mi_108_78, ↓mi_108_79, ↓mi_108_80, ↓mi_108_81, ↓mi_108_83, ↓mi_108_85, ↓mi_108_86, ↓mi_108_89, ↓mi_108_90, ↓mi_108_91, ↓mi_108_92, ↓mi_108_93, ↓mi_108_94, ↓mi_108_95, ↓mi_108_96, ↓mi_108_98, ↓mi_108_100, ↓mi_108_101, ↓mi_108_102, ↓mi_108_103, cond_true, mz_clv, mz_cln, Bool.false_or, Bool.true_or, Bool.or_false, Bool.or_true, if_true, if_false, ite_self, ms_u_s, ms_u_r, ms_u_i, ms_u_u, o0, o1, o2, o3, o4, hJ, la_hi, la_lo, la_or32, la_m26, wb_shr, wb_shl, la_hi2, e26, e52, e14, e40, la_or12, mL_at, mL_upd, lN_add, uN_n]
  rfl
theorem fl_l {r u L : Nat} {x : Int32} (ho : ∀ i, i < L → mo_0 q.1 r u i = true) (hL : L < 5000) {f : Nat → Int32} : ∀ m k w, m + k = L → ms_G 148 5 [.ref (ms_ad r u), .int x, .int (nI k), .int (nI L)] [] (ms_Z q w (ms_u I r u (ms_fl k x f)) J) = some (.inl none, ms_Z q (w || decide (0 < m)) (ms_u I r u (ms_fl L x f)) J)
  | 0, k, w, hk => by
    have : k = L := by omega
    subst this
    simp (disch := omega) only [↓mi_148_5, ↓mi_148_6, ↓mi_148_7, ↓mi_148_20, na_le, if_pos, Nat.lt_irrefl, decide_false, Bool.or_false]
  | m + 1, k, w, hk => by
    have hok := ho k (by omega)
    rw [mi_148_5]
    simp (disch := omega) only [↓mi_148_6, ↓mi_148_7, ↓mi_148_10, ↓mi_148_11, ↓mi_148_12, ↓mi_148_13, ↓mi_148_14, ↓mi_148_17, cond_true, mz_clv, mz_cln, Bool.false_or, Bool.true_or, Bool.or_false, Bool.or_true, if_true, if_false, ite_self, ms_u_s, ms_u_r, ms_u_i, ms_u_u, hok, na_le, na_up, if_neg, ms_fl_s]
    exact (fl_l ho hL m (k + 1) true (by omega)).trans (by simp)
theorem sp_148 {r u : Nat} {x : Int32} (h3 : mo_3 r u = true) (ho : ∀ i, i < ms_nr q.1 r u → mo_0 q.1 r u i = true) (hL : ms_nr q.1 r u < 5000) (h0 : 0 < ms_nr q.1 r u) : ms_G 148 0 [.ref (ms_ad r u), .int x, .null, .null] [] (ms_Z q false I J) = some (.inl none, ms_Z q true (ms_u I r u (ms_fl (ms_nr q.1 r u) x (I r u))) J) := by
  have h := fl_l (q := q) (I := I) (J := J) (x := x) ho hL (f := I r u) (ms_nr q.1 r u) 0 false (by omega)
  rw [ms_fl_0, ms_u_id] at h
  simp (disch := omega) only [↓mi_148_0, ↓mi_148_1, ↓mi_148_2, ↓mi_148_3, ↓mi_148_4, cond_true, mz_clv, mz_cln, Bool.false_or, Bool.true_or, Bool.or_false, Bool.or_true, if_true, if_false, ite_self, h3]
  rw [h]
  simp [h0]
theorem fL_l {r : Nat} (ho : ∀ i, i < 5 → mo_1 q.1 r 0 i = true) {g : Nat → Nat} : ∀ m k w, m + k = 5 → ms_G 149 6 [.ref (ms_ad r 0), .long (lN 0), .null, .int (nI k), .int (nI 5)] [] (ms_Z q w I (ms_u J r 0 (ms_mL (fun i => if i < k then 0 else g i)))) = some (.inl none, ms_Z q (w || decide (0 < m)) I (ms_u J r 0 (ms_mL (fun i => if i < 5 then 0 else g i))))
  | 0, k, w, hk => by
    have : k = 5 := by omega
    subst this
    simp (disch := omega) only [↓mi_149_6, ↓mi_149_7, ↓mi_149_9, ↓mi_149_22, na_le, if_pos, Nat.lt_irrefl, decide_false, Bool.or_false]
  | m + 1, k, w, hk => by
    have hok := ho k (by omega)
    rw [mi_149_6]
    simp (disch := omega) only [↓mi_149_7, ↓mi_149_9, ↓mi_149_12, ↓mi_149_13, ↓mi_149_14, ↓mi_149_15, ↓mi_149_16, ↓mi_149_19, cond_true, mz_clv, mz_cln, Bool.false_or, Bool.true_or, Bool.or_false, Bool.or_true, if_true, if_false, ite_self, ms_u_s, ms_u_u, hok, na_le, na_up, if_neg, mL_upd]
    have e : ms_uN (fun i => if i < k then 0 else g i) k 0 = (fun i => if i < k + 1 then 0 else g i) := by
      funext i
      unfold ms_uN
      by_cases hi : i = k
      · simp [hi]
      · by_cases h2 : i < k
        · simp [h2, Nat.lt_succ_of_lt h2]
        · simp [hi, h2, show ¬ i < k + 1 by omega]
    rw [e]
    exact (fL_l ho m (k + 1) true (by omega)).trans (by simp)
theorem sp_149 {r : Nat} {g : Nat → Nat} (hJ : J r 0 = ms_mL g) (hn : ms_nr q.1 r 0 = 5) (h3 : mo_3 r 0 = true) (ho : ∀ i, i < 5 → mo_1 q.1 r 0 i = true) : ms_G 149 0 [.ref (ms_ad r 0), .long (lN 0), .null, .null, .null] [] (ms_Z q false I J) = some (.inl none, ms_Z q true I (ms_u J r 0 (ms_mL (fun i => if i < 5 then 0 else g i)))) := by
  have h := fL_l (q := q) (I := I) (J := J) ho (g := g) 5 0 false rfl
  have e := ms_u_id J r 0
  rw [hJ] at e
  have e0 : (fun i => if i < 0 then 0 else g i) = g := by
    funext i
    exact if_neg (Nat.not_lt_zero i)
  rw [e0, e] at h
  simp (disch := omega) only [↓mi_149_0, ↓mi_149_1, ↓mi_149_2, ↓mi_149_3, ↓mi_149_4, cond_true, mz_clv, mz_cln, Bool.false_or, Bool.true_or, Bool.or_false, Bool.or_true, if_true, if_false, ite_self, h3, hn]
  exact h
def ms_sw1 (h : Nat → Nat) (i : Nat) : Nat := h i / 2 ^ (6 * i) + h (i + 1) * 2 ^ (26 - 6 * i)
theorem sp_114 {h : Nat → Nat} (hJ : J 10 0 = ms_mL h) (hb : ∀ i, i < 5 → h i < 67108864) {i : Nat} (hi : i < 4) : ms_G 114 0 [.ref (ms_ad 8 0), .int (nI i), .null] [] (ms_Z q false I J) = some (.inl (some (.int (nI (ms_sw1 h i)))), ms_Z q false I J) := by
  have h1 := hb i (by omega)
  have h2 := hb (i + 1) (by omega)
  have hp : (2 : Nat) ^ (6 * i) * 2 ^ (26 - 6 * i) = 67108864 := by
    rw [← Nat.pow_add, show 6 * i + (26 - 6 * i) = 26 by omega]
  have hd : h i / 2 ^ (6 * i) < 2 ^ (26 - 6 * i) := Nat.div_lt_of_lt_mul (by rw [hp]; exact h1)
  have hq : (2 : Nat) ^ (26 - 6 * i) ≤ 67108864 := by
    have : (2 : Nat) ^ (26 - 6 * i) ≤ 2 ^ 26 := Nat.pow_le_pow_right (by decide) (by omega)
    exact this
  have hm : h (i + 1) * 2 ^ (26 - 6 * i) ≤ 67108864 * 67108864 := Nat.mul_le_mul (by omega) hq
  have hor : lN (h i / 2 ^ (6 * i)) ||| lN (h (i + 1) * 2 ^ (26 - 6 * i)) = lN (ms_sw1 h i) := g_or' (k := 26 - 6 * i) rfl hd (by omega)
  simp (disch := omega) only [↓mi_114_0, ↓mi_114_2, ↓mi_114_3, ↓mi_114_4, ↓mi_114_5, ↓mi_114_6, ↓mi_114_9, ↓mi_114_10, ↓mi_114_11, ↓mi_114_12, ↓mi_114_13, ↓mi_114_14, ↓mi_114_17, ↓mi_114_18, ↓mi_114_19, ↓mi_114_20, ↓mi_114_21, ↓mi_114_23, ↓mi_114_24, ↓mi_114_25, ↓mi_114_26, ↓mi_114_27, ↓mi_114_28, cond_true, mz_clv, mz_cln, Bool.false_or, Bool.true_or, Bool.or_false, Bool.or_true, if_true, if_false, ite_self, ms_u_s, ms_u_r, ms_u_i, ms_u_u, o1_10, hJ, mL_at, pk_mul, pk_sub, na_up, wb_shr, wb_shl, hor, lN_i]
end Pol2
