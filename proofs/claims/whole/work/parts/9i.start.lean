/-! START. -/
theorem l2_neg {y : Int32} {n : Nat} (hn : n ≤ 8) (hy : y < nI 0) : lg_cmp (lN 2 * y.toInt64) (nI n).toInt64 ≤ nI 0 := by
  rw [Int32.lt_iff_toInt_lt, nI_toInt (by decide)] at hy
  refine (lg_cmp_le _ _).mpr ?_
  rw [Int64.le_iff_toInt_le, na_l (show n < 2147483648 by omega), pf_lI (show n < 2 ^ 63 by omega)]
  have h1 : (lN 2).toInt = 2 := pf_lI (by decide)
  have h2 : y.toInt64.toInt = y.toInt := Int32.toInt_toInt64 y
  rw [Int64.toInt_mul, h1, h2]
  have lo := Int32.le_toInt y
  have e : (2 * y.toInt).bmod (2 ^ 64) = 2 * y.toInt := by
    rw [Int.bmod_eq_of_le (by omega) (by omega)]
  rw [e]
  omega
section Start
variable {q : Nat × Nat} {w : Bool} {I : ms_i} {J : ms_j} {σ : ms_M}
theorem sp_116 (x y : Int32) : ms_G 116 0 [.ref (ms_ad 19 0), .int x, .int y] [] (ms_Z q false I J) = some (.inl none, ms_Z q true (ms_u (ms_u I 19 0 (upd (upd (upd (upd (upd (I 19 0) 0 x) 1 y) 2 (nI 0)) 3 (nI 0)) 4 (nI 0))) 20 0 (ms_fl 3 (nI 0) (I 20 0))) J) := by
  have h := sp_148 (q := q) (I := ms_u I 19 0 (upd (upd (upd (upd (upd (I 19 0) 0 x) 1 y) 2 (nI 0)) 3 (nI 0)) 4 (nI 0))) (J := J) (r := 20) (u := 0) (x := nI 0) o3_20 (fun i hi => o0_20 hi) (show 3 < 5000 by decide) (show 0 < 3 by decide)
  rw [nr_20] at h
  simp (disch := omega) only [↓mi_116_0, ↓mi_116_1, ↓mi_116_2, ↓mi_116_5, ↓mi_116_6, ↓mi_116_7, ↓mi_116_10, ↓mi_116_11, ↓mi_116_12, ↓mi_116_15, ↓mi_116_16, ↓mi_116_17, ↓mi_116_20, ↓mi_116_21, ↓mi_116_22, ↓mi_116_25, ↓mi_116_26, ↓mi_116_29, ↓mi_116_30, ↓mi_116_33, cond_true, mz_clv, mz_cln, Bool.false_or, Bool.true_or, Bool.or_false, Bool.or_true, if_true, if_false, ite_self, ms_u_s, ms_u_r, ms_u_i, ms_u_u, h]
theorem sp_93 {u : Nat} (hu : u < 8) : ms_G 93 0 [.ref (ms_ad 31 u)] [] (ms_Z q false I J) = some (.inl none, ms_Z q true (ms_u I 31 u (upd (upd (upd (upd (I 31 u) 9 (nI 0)) 10 (nI 0)) 11 (nI 0)) 12 (nI 0))) J) := by
  simp (disch := omega) only [↓mi_93_0, ↓mi_93_1, ↓mi_93_2, ↓mi_93_5, ↓mi_93_6, ↓mi_93_7, ↓mi_93_10, ↓mi_93_11, ↓mi_93_12, ↓mi_93_15, ↓mi_93_16, ↓mi_93_17, ↓mi_93_20, ms_u_s, ms_u_r, ms_u_i, ms_u_u]
theorem st_c {l1 : Value} {y2 : Int32} : ∀ d k I, d + k = 8 → ∃ I', ms_G 1 49 [.ref (ms_ad 3 0), l1, .int y2, .int (nI k)] [] (ms_Z q true I J) = some (.inl none, ms_Z q true I' J) ∧ (∀ u, k ≤ u → u < 8 → I' 31 u 9 = nI 0 ∧ I' 31 u 10 = nI 0 ∧ I' 31 u 11 = nI 0 ∧ I' 31 u 12 = nI 0) ∧ (∀ u, u < k → I' 31 u = I 31 u) ∧ ms_fq [31] I I'
  | 0, k, I, hk => by
    have : k = 8 := by omega
    subst this
    refine ⟨I, ?_, fun u a b => absurd a (by omega), fun _ _ => rfl, fr_rf⟩
    simp (disch := omega) only [↓mi_1_49, ↓mi_1_50, ↓mi_1_52, ↓mi_1_70, na_le, if_pos]
  | d + 1, k, I, hk => by
    obtain ⟨I1, e1⟩ : ∃ I1, I1 = ms_u I 31 k (upd (upd (upd (upd (I 31 k) 9 (nI 0)) 10 (nI 0)) 11 (nI 0)) 12 (nI 0)) := ⟨_, rfl⟩
    have h := sp_93 (q := q) (I := I) (J := J) (show k < 8 by omega)
    rw [← e1] at h
    obtain ⟨I', r, a, b, c⟩ := st_c (l1 := l1) (y2 := y2) d (k + 1) I1 (by omega)
    refine ⟨I', ?_, ?_, ?_, fr_tr (by rw [e1]; exact fr_u rfl) c⟩
    · rw [mi_1_49]
      simp (disch := omega) only [↓mi_1_50, ↓mi_1_52, ↓mi_1_55, ↓mi_1_56, ↓mi_1_59, ↓mi_1_60, ↓mi_1_61, ↓mi_1_64, ↓mi_1_67, cond_true, mz_clv, mz_cln, Bool.false_or, Bool.true_or, Bool.or_false, Bool.or_true, if_true, if_false, ite_self, o2_30, er_30, na_le, na_up, if_neg, h]
      exact r
    · intro u a1 a2
      by_cases e : u = k
      · subst e
        rw [b u (by omega), e1, ms_u_s]
        exact ⟨rfl, rfl, rfl, rfl⟩
      · exact a u (by omega) a2
    · intro u hu
      rw [b u (by omega), e1, ms_u_i _ _ _ _ (by omega)]
theorem st_m1 {l1 l2 : Value} {y2 : Int32} : ∀ d k I, d + k = 8 → ∃ I', ms_G 35 76 [.ref (ms_ad 40 0), l1, .int y2, .int (nI k)] [] (ms_Z q true I J) = ms_G 35 116 [.ref (ms_ad 40 0), l1, .int y2, .int (nI 8)] [] (ms_Z q true I' J) ∧ (∀ u, k ≤ u → u < 8 → I' 43 0 u = nI 0 ∧ I' 44 0 u = nI 0 ∧ I' 45 0 u = nI 0 ∧ I' 46 0 u = nI 0) ∧ (∀ u, u < k → I' 43 0 u = I 43 0 u ∧ I' 44 0 u = I 44 0 u ∧ I' 45 0 u = I 45 0 u ∧ I' 46 0 u = I 46 0 u) ∧ ms_fq [43, 44, 45, 46] I I'
  | 0, k, I, hk => by
    have : k = 8 := by omega
    subst this
    refine ⟨I, ?_, fun u a b => absurd a (by omega), fun _ _ => ⟨rfl, rfl, rfl, rfl⟩, fr_rf⟩
    simp (disch := omega) only [↓mi_35_76, ↓mi_35_77, ↓mi_35_79, na_le, if_pos]
  | d + 1, k, I, hk => by
    obtain ⟨I1, e1⟩ : ∃ I1, I1 = ms_u (ms_u (ms_u (ms_u I 43 0 (upd (I 43 0) k (nI 0))) 44 0 (upd (I 44 0) k (nI 0))) 45 0 (upd (I 45 0) k (nI 0))) 46 0 (upd (I 46 0) k (nI 0)) := ⟨_, rfl⟩
    obtain ⟨I', r, a, b, c⟩ := st_m1 (l1 := l1) (l2 := l2) (y2 := y2) d (k + 1) I1 (by omega)
    have y43 : I1 43 0 = upd (I 43 0) k (nI 0) := by rw [e1, ms_u_r _ _ _ _ (by decide), ms_u_r _ _ _ _ (by decide), ms_u_r _ _ _ _ (by decide), ms_u_s]
    have y44 : I1 44 0 = upd (I 44 0) k (nI 0) := by rw [e1, ms_u_r _ _ _ _ (by decide), ms_u_r _ _ _ _ (by decide), ms_u_s]
    have y45 : I1 45 0 = upd (I 45 0) k (nI 0) := by rw [e1, ms_u_r _ _ _ _ (by decide), ms_u_s]
    have y46 : I1 46 0 = upd (I 46 0) k (nI 0) := by rw [e1, ms_u_s]
    refine ⟨I', ?_, ?_, ?_, fr_tr (by rw [e1]; exact fr_tr (fr_tr (fr_tr (fr_u rfl) (fr_u rfl)) (fr_u rfl)) (fr_u rfl)) c⟩
    · rw [mi_35_76]
      simp (disch := omega) only [↓mi_35_77, ↓mi_35_79, ↓mi_35_82, ↓mi_35_83, ↓mi_35_86, ↓mi_35_87, ↓mi_35_88, ↓mi_35_89, ↓mi_35_90, ↓mi_35_93, ↓mi_35_94, ↓mi_35_95, ↓mi_35_96, ↓mi_35_97, ↓mi_35_100, ↓mi_35_101, ↓mi_35_102, ↓mi_35_103, ↓mi_35_104, ↓mi_35_107, ↓mi_35_108, ↓mi_35_109, ↓mi_35_110, ↓mi_35_113, cond_true, mz_clv, mz_cln, Bool.false_or, Bool.true_or, Bool.or_false, Bool.or_true, if_true, if_false, ite_self, ms_u_s, ms_u_r, ms_u_i, ms_u_u, o0_43, o0_44, o0_45, o0_46, na_le, na_up, if_neg, ← e1]
      exact r
    · intro u a1 a2
      by_cases e : u = k
      · subst e
        have := b u (by omega)
        rw [y43, y44, y45, y46, pk_us, pk_us, pk_us, pk_us] at this
        exact this
      · exact a u (by omega) a2
    · intro u hu
      have := b u (by omega)
      rw [y43, y44, y45, y46, pk_un (by omega), pk_un (by omega), pk_un (by omega), pk_un (by omega)] at this
      exact this
theorem st_m2 {l1 : Value} {y2 : Int32} : ∀ d k I, d + k = 4 → ∃ I', ms_G 35 118 [.ref (ms_ad 40 0), l1, .int y2, .int (nI k)] [] (ms_Z q true I J) = some (.inl none, ms_Z q true I' J) ∧ (∀ u, k ≤ u → u < 4 → I' 50 0 u = nI 0 ∧ I' 51 0 u = nI 0) ∧ (∀ u, u < k → I' 50 0 u = I 50 0 u ∧ I' 51 0 u = I 51 0 u) ∧ ms_fq [50, 51] I I'
  | 0, k, I, hk => by
    have : k = 4 := by omega
    subst this
    refine ⟨I, ?_, fun u a b => absurd a (by omega), fun _ _ => ⟨rfl, rfl⟩, fr_rf⟩
    simp (disch := omega) only [↓mi_35_118, ↓mi_35_119, ↓mi_35_120, ↓mi_35_143, na_le, if_pos]
  | d + 1, k, I, hk => by
    obtain ⟨I1, e1⟩ : ∃ I1, I1 = ms_u (ms_u I 50 0 (upd (I 50 0) k (nI 0))) 51 0 (upd (I 51 0) k (nI 0)) := ⟨_, rfl⟩
    obtain ⟨I', r, a, b, c⟩ := st_m2 (l1 := l1) (y2 := y2) d (k + 1) I1 (by omega)
    have y50 : I1 50 0 = upd (I 50 0) k (nI 0) := by rw [e1, ms_u_r _ _ _ _ (by decide), ms_u_s]
    have y51 : I1 51 0 = upd (I 51 0) k (nI 0) := by rw [e1, ms_u_s]
    refine ⟨I', ?_, ?_, ?_, fr_tr (by rw [e1]; exact fr_tr (fr_u rfl) (fr_u rfl)) c⟩
    · rw [mi_35_118]
      simp (disch := omega) only [↓mi_35_119, ↓mi_35_120, ↓mi_35_123, ↓mi_35_124, ↓mi_35_127, ↓mi_35_128, ↓mi_35_129, ↓mi_35_130, ↓mi_35_131, ↓mi_35_134, ↓mi_35_135, ↓mi_35_136, ↓mi_35_137, ↓mi_35_140, cond_true, mz_clv, mz_cln, Bool.false_or, Bool.true_or, Bool.or_false, Bool.or_true, if_true, if_false, ite_self, ms_u_s, ms_u_r, ms_u_i, ms_u_u, o0_50, o0_51, na_le, na_up, if_neg, ← e1]
      exact r
    · intro u a1 a2
      by_cases e : u = k
      · subst e
        have := b u (by omega)
        rw [y50, y51, pk_us, pk_us] at this
        exact this
      · exact a u (by omega) a2
    · intro u hu
      have := b u (by omega)
      rw [y50, y51, pk_un (by omega), pk_un (by omega)] at this
      exact this
theorem wr_133a {x y : Int32} (h : ms_G 1 0 [.ref (ms_ad 3 0), .int x, .int y, .null] [] (ms_Z q false I J) = some (.inr 0, ms_Z (q.1, q.2 + 1) true I J)) : ms_G 133 0 [.ref (ms_ad 3 0), .int x, .int y, .null] [] (ms_Z q false I J) = some (.inl (some (.int (nI 1))), ms_Z (q.1, q.2 + 1) true I J) := by
  simp (disch := omega) only [↓mi_133_0, ↓mi_133_1, ↓mi_133_2, ↓mi_133_3, ↓mi_133_3_t0, ↓mi_133_9, ↓mi_133_10, ↓mi_133_11, h]
theorem wr_133v {x y : Int32} {w' : Bool} {I' : ms_i} {J' : ms_j} (h : ms_G 1 0 [.ref (ms_ad 3 0), .int x, .int y, .null] [] (ms_Z q false I J) = some (.inl none, ms_Z q w' I' J')) : ms_G 133 0 [.ref (ms_ad 3 0), .int x, .int y, .null] [] (ms_Z q false I J) = some (.inl (some (.int (nI 0))), ms_Z q w' I' J') := by
  simp (disch := omega) only [↓mi_133_0, ↓mi_133_1, ↓mi_133_2, ↓mi_133_3, ↓mi_133_3_t0, ↓mi_133_6, ↓mi_133_12, ↓mi_133_13, cond_true, mz_clv, mz_cln, Bool.false_or, Bool.true_or, Bool.or_false, Bool.or_true, if_true, if_false, ite_self, h]
theorem lo_start {f : Nat → Int32} {x y : Int32} (h : ms_iv f I J) : ∃ (q' : Nat × Nat) (k : Nat) (w1 w2 : Bool) (I1 : ms_i) (J1 : ms_j) (I2 : ms_i) (J2 : ms_j), ms_G 133 0 [.ref (ms_ad 3 0), .int x, .int y, .null] [] (ms_Z q false I J) = some (.inl (some (.int (nI k))), ms_Z q' w1 I1 J1) ∧ ms_G 35 0 [.ref (ms_ad 40 0), .int x, .int y, .null] [] (ms_Z q' false I1 J1) = some (.inl none, ms_Z q' w2 I2 J2) ∧ I2 40 0 0 = nI k ∧ q'.1 = q.1 ∧ q'.2 ≤ q.2 + 1 ∧ I1 0 0 = f ∧ ms_iv f I2 J2 := by
  have hiv := h
  have bad : ms_G 1 0 [.ref (ms_ad 3 0), .int x, .int y, .null] [] (ms_Z q false I J) = some (.inr 0, ms_Z (q.1, q.2 + 1) true I J) → ms_G 35 0 [.ref (ms_ad 40 0), .int x, .int y, .null] [] (ms_Z (q.1, q.2 + 1) false I J) = some (.inl none, ms_Z (q.1, q.2 + 1) true (ms_u I 40 0 (upd (I 40 0) 0 (nI 1))) J) → ∃ (q' : Nat × Nat) (k : Nat) (w1 w2 : Bool) (I1 : ms_i) (J1 : ms_j) (I2 : ms_i) (J2 : ms_j), ms_G 133 0 [.ref (ms_ad 3 0), .int x, .int y, .null] [] (ms_Z q false I J) = some (.inl (some (.int (nI k))), ms_Z q' w1 I1 J1) ∧ ms_G 35 0 [.ref (ms_ad 40 0), .int x, .int y, .null] [] (ms_Z q' false I1 J1) = some (.inl none, ms_Z q' w2 I2 J2) ∧ I2 40 0 0 = nI k ∧ q'.1 = q.1 ∧ q'.2 ≤ q.2 + 1 ∧ I1 0 0 = f ∧ ms_iv f I2 J2 := fun r1 r2 => ⟨(q.1, q.2 + 1), 1, true, true, I, J, _, J, wr_133a r1, r2, by rw [ms_u_s, pk_us], rfl, Nat.le_refl _, hiv.1, iv_code hiv _⟩
  have d := fun (q' : Nat × Nat) (I' : ms_i) (B : Bool) (hB : (¬ x < nI 3 ∧ ¬ nI 8 < x) ↔ B = true) => sp_19 (σ := ms_Z q' false I' J) hB
  by_cases hx1 : x < nI 3
  · have d1 := d (q.1, q.2 + 1) I false ⟨fun z => absurd hx1 z.1, fun z => absurd z Bool.false_ne_true⟩
    refine bad ?_ ?_
    · simp (disch := omega) only [↓mi_1_0, ↓mi_1_1, ↓mi_1_2, ↓mi_1_23, if_pos hx1]
    · simp (disch := omega) only [↓mi_35_0, ↓mi_35_1, ↓mi_35_2, ↓mi_35_3, ↓mi_35_5, ↓mi_35_8, ↓mi_35_32, ↓mi_35_33, ↓mi_35_36, ↓mi_35_37, ↓mi_35_40, ↓mi_35_43, cond_true, mz_clv, mz_cln, Bool.false_or, Bool.true_or, Bool.or_false, Bool.or_true, if_true, if_false, ite_self, ms_u_s, ms_u_r, ms_u_i, ms_u_u, pk_us, d1, if_pos b_f, na_le, if_neg]
  · by_cases hx2 : nI 8 < x
    · have d1 := d (q.1, q.2 + 1) I false ⟨fun z => absurd hx2 z.2, fun z => absurd z Bool.false_ne_true⟩
      refine bad ?_ ?_
      · simp (disch := omega) only [↓mi_1_0, ↓mi_1_1, ↓mi_1_2, ↓mi_1_5, ↓mi_1_6, ↓mi_1_8, ↓mi_1_23, if_neg hx1, if_pos hx2]
      · simp (disch := omega) only [↓mi_35_0, ↓mi_35_1, ↓mi_35_2, ↓mi_35_3, ↓mi_35_5, ↓mi_35_8, ↓mi_35_32, ↓mi_35_33, ↓mi_35_36, ↓mi_35_37, ↓mi_35_40, ↓mi_35_43, cond_true, mz_clv, mz_cln, Bool.false_or, Bool.true_or, Bool.or_false, Bool.or_true, if_true, if_false, ite_self, ms_u_s, ms_u_r, ms_u_i, ms_u_u, pk_us, d1, if_pos b_f, na_le, if_neg]
    · have d1 := fun q' I' => d q' I' true ⟨fun _ => rfl, fun _ => ⟨hx1, hx2⟩⟩
      obtain ⟨n, n3, n8, rfl⟩ : ∃ n, 3 ≤ n ∧ n ≤ 8 ∧ x = nI n := by
        rw [Int32.lt_iff_toInt_lt, nI_toInt (by decide)] at hx1 hx2
        refine ⟨x.toInt.toNat, by omega, by omega, i32_ext ?_⟩
        rw [nI_toInt (by omega)]
        omega
      have dv : nI n / nI 2 = nI (n / 2) := pk_div (a := n) (d := 2) (by omega) (by decide) (by decide)
      by_cases hy1 : nI n < y
      · have e := d1 (q.1, q.2 + 1) I
        refine bad ?_ ?_
        · simp (disch := omega) only [↓mi_1_0, ↓mi_1_1, ↓mi_1_2, ↓mi_1_5, ↓mi_1_6, ↓mi_1_8, ↓mi_1_11, ↓mi_1_12, ↓mi_1_13, ↓mi_1_23, if_neg hx1, if_neg hx2, if_pos hy1]
        · simp (disch := omega) only [↓mi_35_0, ↓mi_35_1, ↓mi_35_2, ↓mi_35_3, ↓mi_35_5, ↓mi_35_8, ↓mi_35_11, ↓mi_35_12, ↓mi_35_13, ↓mi_35_32, ↓mi_35_33, ↓mi_35_36, ↓mi_35_37, ↓mi_35_40, ↓mi_35_43, cond_true, mz_clv, mz_cln, Bool.false_or, Bool.true_or, Bool.or_false, Bool.or_true, if_true, if_false, ite_self, ms_u_s, ms_u_r, ms_u_i, ms_u_u, pk_us, e, if_neg b_t, if_pos hy1, na_le, if_neg]
      · by_cases hy2 : y < nI 0
        · have e := d1 (q.1, q.2 + 1) I
          have c1 : ¬ nI (n / 2) < y := fun z => by
            rw [Int32.lt_iff_toInt_lt, nI_toInt (by omega)] at z hy2
            omega
          have c2 := l2_neg n8 hy2
          refine bad ?_ ?_
          · simp (disch := omega) only [↓mi_1_0, ↓mi_1_1, ↓mi_1_2, ↓mi_1_5, ↓mi_1_6, ↓mi_1_8, ↓mi_1_11, ↓mi_1_12, ↓mi_1_13, ↓mi_1_16, ↓mi_1_17, ↓mi_1_18, ↓mi_1_19, ↓mi_1_20, ↓mi_1_23, if_neg hx1, if_neg hx2, if_neg hy1, dv, if_neg c1]
          · simp (disch := omega) only [↓mi_35_0, ↓mi_35_1, ↓mi_35_2, ↓mi_35_3, ↓mi_35_5, ↓mi_35_8, ↓mi_35_11, ↓mi_35_12, ↓mi_35_13, ↓mi_35_16, ↓mi_35_19, ↓mi_35_20, ↓mi_35_21, ↓mi_35_22, ↓mi_35_23, ↓mi_35_24, ↓mi_35_25, ↓mi_35_32, ↓mi_35_33, ↓mi_35_36, ↓mi_35_37, ↓mi_35_40, ↓mi_35_43, cond_true, mz_clv, mz_cln, Bool.false_or, Bool.true_or, Bool.or_false, Bool.or_true, if_true, if_false, ite_self, ms_u_s, ms_u_r, ms_u_i, ms_u_u, pk_us, e, if_neg b_t, if_neg hy1, if_pos c2, na_le, if_neg]
        · obtain ⟨t, tn, rfl⟩ : ∃ t, t ≤ n ∧ y = nI t := by
            rw [Int32.lt_iff_toInt_lt, nI_toInt (by omega)] at hy1 hy2
            refine ⟨y.toInt.toNat, by omega, i32_ext ?_⟩
            rw [nI_toInt (by omega)]
            omega
          have l1 : (nI t).toInt64 = lN t := na_l (by omega)
          have l2 : (nI n).toInt64 = lN n := na_l (by omega)
          have l3 : lN 2 * lN t = lN (2 * t) := lN_mul 2 t
          by_cases hy3 : n < 2 * t
          · -- it starts
            obtain ⟨h0, n', t', g', nm', hd', S', T', X, m', Q', h⟩ := h
            obtain ⟨hA, hSm, hH, hP, hX, hI, hN, hK, hF, hR, hM, hZ⟩ := h
            obtain ⟨I1, e1⟩ : ∃ I1, I1 = ms_u I 14 0 (upd (I 14 0) 2 (nI 0)) := ⟨_, rfl⟩
            have c1 := sp_75 (q := q) (I := I) (J := J)
            rw [← e1] at c1
            have c2 := sp_116 (q := q) (I := I1) (J := J) (nI n) (nI t)
            obtain ⟨I2, e2⟩ : ∃ I2, I2 = ms_u (ms_u I1 19 0 (upd (upd (upd (upd (upd (I1 19 0) 0 (nI n)) 1 (nI t)) 2 (nI 0)) 3 (nI 0)) 4 (nI 0))) 20 0 (ms_fl 3 (nI 0) (I1 20 0)) := ⟨_, rfl⟩
            rw [← e2] at c2
            obtain ⟨I3, r3, p3, _, f3⟩ := st_c (q := q) (J := J) (l1 := .int (nI n)) (y2 := nI t) 8 0 I2 rfl
            have r1 : ms_G 1 0 [.ref (ms_ad 3 0), .int (nI n), .int (nI t), .null] [] (ms_Z q false I J) = some (.inl none, ms_Z q true I3 J) := by
              simp (disch := omega) only [↓mi_1_0, ↓mi_1_1, ↓mi_1_2, ↓mi_1_5, ↓mi_1_6, ↓mi_1_8, ↓mi_1_11, ↓mi_1_12, ↓mi_1_13, ↓mi_1_16, ↓mi_1_17, ↓mi_1_18, ↓mi_1_19, ↓mi_1_20, ↓mi_1_31, ↓mi_1_32, ↓mi_1_35, ↓mi_1_38, ↓mi_1_39, ↓mi_1_42, ↓mi_1_43, ↓mi_1_44, ↓mi_1_47, ↓mi_1_48, cond_true, mz_clv, mz_cln, Bool.false_or, Bool.true_or, Bool.or_false, Bool.or_true, if_true, if_false, ite_self, na_lt, if_neg, dv, if_pos, c1, c2]
              exact r3
            have f13 : ms_fq [14, 19, 20, 31] I I3 := by
              refine fr_tr ?_ (fr_up f3 rfl)
              rw [e2, e1]
              exact fr_tr (fr_tr (fr_u rfl) (fr_u rfl)) (fr_u rfl)
            obtain ⟨Ia, ea⟩ : ∃ Ia, Ia = ms_u I3 40 0 (upd (upd (upd (upd (upd (upd (upd (I3 40 0) 0 (nI 0)) 1 (nI n)) 2 (nI t)) 3 (nI 0)) 4 (nI 0)) 23 (nI 0)) 20 (nI 0)) := ⟨_, rfl⟩
            obtain ⟨Ib, rb, pb, _, fb⟩ := st_m1 (q := q) (J := J) (l1 := .int (nI n)) (l2 := .null) (y2 := nI t) 8 0 Ia rfl
            obtain ⟨Ic, rc, pc, _, fc⟩ := st_m2 (q := q) (J := J) (l1 := .int (nI n)) (y2 := nI t) 4 0 Ib rfl
            have e := d1 q I3
            have r2 : ms_G 35 0 [.ref (ms_ad 40 0), .int (nI n), .int (nI t), .null] [] (ms_Z q false I3 J) = some (.inl none, ms_Z q true Ic J) := by
              simp (disch := omega) only [↓mi_35_0, ↓mi_35_1, ↓mi_35_2, ↓mi_35_3, ↓mi_35_5, ↓mi_35_8, ↓mi_35_11, ↓mi_35_12, ↓mi_35_13, ↓mi_35_16, ↓mi_35_19, ↓mi_35_20, ↓mi_35_21, ↓mi_35_22, ↓mi_35_23, ↓mi_35_24, ↓mi_35_25, ↓mi_35_28, ↓mi_35_29, ↓mi_35_32, ↓mi_35_33, ↓mi_35_36, ↓mi_35_37, ↓mi_35_40, ↓mi_35_44, ↓mi_35_45, ↓mi_35_46, ↓mi_35_49, ↓mi_35_50, ↓mi_35_51, ↓mi_35_54, ↓mi_35_55, ↓mi_35_56, ↓mi_35_59, ↓mi_35_60, ↓mi_35_61, cond_true, mz_clv, mz_cln, Bool.false_or, Bool.true_or, Bool.or_false, Bool.or_true, if_true, if_false, ite_self, ms_u_s, ms_u_r, ms_u_i, ms_u_u, pk_us, e, if_neg b_t, na_lt, if_neg, l1, l2, l3, lc_le, na_le, if_pos]
              simp (disch := omega) only [↓mi_35_64, ↓mi_35_65, ↓mi_35_66, ↓mi_35_66_0, ↓mi_35_66_1, ↓mi_35_69, ↓mi_35_70, ↓mi_35_71, ↓mi_35_74, ↓mi_35_75, cond_true, mz_clv, mz_cln, Bool.false_or, Bool.true_or, Bool.or_false, Bool.or_true, if_true, if_false, ite_self, ms_u_s, ms_u_r, ms_u_i, ms_u_u, ← ea]
              rw [rb]
              simp (disch := omega) only [↓mi_35_116, ↓mi_35_117]
              exact rc
            have fbc : ms_fq [43, 44, 45, 46, 50, 51] Ia Ic := fr_tr (fr_up fb rfl) (fr_up fc rfl)
            have f3c : ms_fq [40, 43, 44, 45, 46, 50, 51] I3 Ic := by
              refine fr_tr ?_ (fr_up fbc rfl)
              rw [ea]
              exact fr_u rfl
            have fall : ms_fq [14, 19, 20, 31, 40, 43, 44, 45, 46, 50, 51] I Ic := fr_tr (fr_up f13 rfl) (fr_up f3c rfl)
            have y40 : Ic 40 0 = upd (upd (upd (upd (upd (upd (upd (I3 40 0) 0 (nI 0)) 1 (nI n)) 2 (nI t)) 3 (nI 0)) 4 (nI 0)) 23 (nI 0)) 20 (nI 0) := by rw [fr_at fbc 40 rfl 0, ea, ms_u_s]
            have y19 : Ic 19 0 = upd (upd (upd (upd (upd (I1 19 0) 0 (nI n)) 1 (nI t)) 2 (nI 0)) 3 (nI 0)) 4 (nI 0) := by rw [fr_at f3c 19 rfl 0, fr_at f3 19 rfl 0, e2, ms_u_r _ _ _ _ (by decide), ms_u_s]
            have y20 : Ic 20 0 = ms_fl 3 (nI 0) (I1 20 0) := by rw [fr_at f3c 20 rfl 0, fr_at f3 20 rfl 0, e2, ms_u_s]
            have y14 : Ic 14 0 2 = nI 0 := by rw [fr_at f3c 14 rfl 0, fr_at f3 14 rfl 0, e2, ms_u_r _ _ _ _ (by decide), ms_u_r _ _ _ _ (by decide), e1, ms_u_s, pk_us]
            refine ⟨q, 0, true, true, I3, J, Ic, J, wr_133v r1, r2, by rw [y40]; rfl, rfl, by omega, by rw [fr_at f13 0 rfl 0]; exact h0, by rw [fr_at fall 0 rfl 0]; exact h0, n, t, 0, fun _ => 0, 0, fun _ => 0, fun _ => 0, X, 0, fun _ => 0, ?_⟩
            have p2n : 0 < 2 ^ n := Nat.two_pow_pos n
            refine ⟨?_, ?_, ?_, ?_, hX, ?_, ?_, ?_, ?_, ?_, ?_, ?_⟩
            · refine ⟨by rw [y19]; rfl, by rw [y19]; rfl, by rw [y19]; rfl, by rw [y40]; rfl, by rw [y40]; rfl, by rw [y40]; rfl, by rw [y40, y19]; rfl, by rw [y40]; rfl, n8, tn, by omega, fun _ => by omega⟩
            · intro z
              cases z
            · refine ⟨fun k hk => ⟨p2n, ?_, (pc k (by omega) (by omega)).1⟩, p2n, by rw [y19]; rfl, fun _ => ⟨(pc 0 (by omega) (by omega)).2, fun k k1 k2 => (pc k (by omega) k2).2, by rw [y19]; rfl⟩, fun z => by omega⟩
              rw [y20]
              exact if_pos hk
            · intro u hu
              have b := pb u (by omega) hu
              have a := p3 u (by omega) hu
              rw [fr_at f3c 31 rfl u, fr_at fc 43 rfl 0, fr_at fc 44 rfl 0, fr_at fc 45 rfl 0, fr_at fc 46 rfl 0]
              exact ⟨a.1, b.1, a.2.1, b.2.1, Nat.le_refl _, Nat.zero_le _, Nat.zero_le _, fun _ => rfl, by rw [a.2.2.1, b.2.2.1], by rw [a.2.2.2, b.2.2.2], fun _ => ⟨a.2.2.1, a.2.2.2⟩⟩
            · intro u hu k hk
              rw [fr_at fall 33 rfl u, fr_at fall 42 rfl 0]
              exact hI u hu k hk
            · intro u hu
              rw [fr_at fall 36 rfl u, fr_at fall 47 rfl 0]
              exact ⟨(hN u hu).1, fun k z => absurd z (Nat.not_lt_zero k), fun z => absurd z (Nat.not_lt_zero 1)⟩
            · intro u hu
              rw [fr_at fall 37 rfl u, fr_at fall 48 rfl 0, fr_at fall 38 rfl u, fr_at fall 49 rfl 0]
              exact hK u hu
            · intro _ u hu z
              exact absurd z (Nat.not_succ_le_zero 1)
            · intro u hu
              rw [fr_at fall 22 rfl u, fr_at fall 52 rfl 0, fr_at fall 24 rfl u, fr_at fall 53 rfl 0, fr_at fall 26 rfl u, fr_at fall 54 rfl 0, fr_at fall 28 rfl u, fr_at fall 55 rfl 0]
              exact hR u hu
            · exact ml_zero y14 (by rw [y40]; rfl)
            · intro j a b
              rw [fr_at fall 6 rfl 0]
              exact hZ j a b
          · have e := d1 (q.1, q.2 + 1) I
            refine bad ?_ ?_
            · simp (disch := omega) only [↓mi_1_0, ↓mi_1_1, ↓mi_1_2, ↓mi_1_5, ↓mi_1_6, ↓mi_1_8, ↓mi_1_11, ↓mi_1_12, ↓mi_1_13, ↓mi_1_16, ↓mi_1_17, ↓mi_1_18, ↓mi_1_19, ↓mi_1_20, ↓mi_1_23, cond_true, mz_clv, mz_cln, Bool.false_or, Bool.true_or, Bool.or_false, Bool.or_true, if_true, if_false, ite_self, na_lt, if_neg, dv]
            · simp (disch := omega) only [↓mi_35_0, ↓mi_35_1, ↓mi_35_2, ↓mi_35_3, ↓mi_35_5, ↓mi_35_8, ↓mi_35_11, ↓mi_35_12, ↓mi_35_13, ↓mi_35_16, ↓mi_35_19, ↓mi_35_20, ↓mi_35_21, ↓mi_35_22, ↓mi_35_23, ↓mi_35_24, ↓mi_35_25, ↓mi_35_32, ↓mi_35_33, ↓mi_35_36, ↓mi_35_37, ↓mi_35_40, ↓mi_35_43, cond_true, mz_clv, mz_cln, Bool.false_or, Bool.true_or, Bool.or_false, Bool.or_true, if_true, if_false, ite_self, ms_u_s, ms_u_r, ms_u_i, ms_u_u, pk_us, e, if_neg b_t, na_lt, if_neg, l1, l2, l3, lc_le, if_pos, na_le]
end Start
