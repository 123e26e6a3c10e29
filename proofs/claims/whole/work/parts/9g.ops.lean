/-! TOTAL, PHONE, COUNT, STREAM. -/
theorem in_badI {x : Int32} {m : Nat} (h : ms_in x m = false) : x.toInt < 0 ∨ (m : Int) ≤ x.toInt := by
  unfold ms_in at h
  have := of_decide_eq_false h
  omega
theorem in_nlt {x : Int32} {m : Nat} (hm : m ≤ 5000) (h : ms_in x m = false) (hn : ¬ x < nI 0) : ¬ x < nI m := fun z => by
  have a := (in_bad hm h).resolve_left hn
  rw [Int32.lt_iff_toInt_lt] at z
  rw [Int32.le_iff_toInt_le] at a
  omega
section Ops
variable {q : Nat × Nat} {w : Bool} {I : ms_i} {J : ms_j} {σ : ms_M}
theorem wr_142a {x : Int32} (h : ms_G 10 0 [.ref (ms_ad 3 0), .int x] [] (ms_Z q false I J) = some (.inr 0, ms_Z (q.1, q.2 + 1) true I J)) : ms_G 142 0 [.ref (ms_ad 3 0), .int x, .ref (ms_ad 66 0), .null] [] (ms_Z q false I J) = some (.inl (some (.int (nI 1))), ms_Z (q.1, q.2 + 1) true I J) := by
  simp (disch := omega) only [↓mi_142_0, ↓mi_142_1, ↓mi_142_2, ↓mi_142_3, ↓mi_142_4, ↓mi_142_4_t0, ↓mi_142_4_t1, ↓mi_142_12, ↓mi_142_13, ↓mi_142_14, h]
theorem wr_142b {x : Int32} (h : ms_G 10 0 [.ref (ms_ad 3 0), .int x] [] (ms_Z q false I J) = some (.inr 1, ms_Z (q.1, q.2 + 1) true I J)) : ms_G 142 0 [.ref (ms_ad 3 0), .int x, .ref (ms_ad 66 0), .null] [] (ms_Z q false I J) = some (.inl (some (.int (nI 2))), ms_Z (q.1, q.2 + 1) true I J) := by
  simp (disch := omega) only [↓mi_142_0, ↓mi_142_1, ↓mi_142_2, ↓mi_142_3, ↓mi_142_4, ↓mi_142_4_t0, ↓mi_142_4_t1, ↓mi_142_15, ↓mi_142_16, ↓mi_142_17, h]
theorem wr_142v {x v : Int32} {w' : Bool} {I' : ms_i} {J' : ms_j} (h : ms_G 10 0 [.ref (ms_ad 3 0), .int x] [] (ms_Z q false I J) = some (.inl (some (.int v)), ms_Z q w' I' J')) : ms_G 142 0 [.ref (ms_ad 3 0), .int x, .ref (ms_ad 66 0), .null] [] (ms_Z q false I J) = some (.inl (some (.int (nI 0))), ms_Z q true I' (ms_u J' 66 0 (vp_updL (J' 66 0) 0 v.toInt64))) := by
  simp (disch := omega) only [↓mi_142_0, ↓mi_142_1, ↓mi_142_2, ↓mi_142_3, ↓mi_142_4, ↓mi_142_4_t0, ↓mi_142_4_t1, ↓mi_142_7, ↓mi_142_8, ↓mi_142_9, ↓mi_142_18, ↓mi_142_19, cond_true, mz_clv, mz_cln, Bool.false_or, Bool.true_or, Bool.or_false, Bool.or_true, if_true, if_false, ite_self, o1_66, h]
theorem lo_total {f : Nat → Int32} {x : Int32} (h : ms_iv f I J) : ∃ (q' : Nat × Nat) (k : Nat) (v : Int32) (w1 w2 : Bool) (I1 : ms_i) (J1 : ms_j) (I2 : ms_i) (J2 : ms_j), ms_G 142 0 [.ref (ms_ad 3 0), .int x, .ref (ms_ad 66 0), .null] [] (ms_Z q false I J) = some (.inl (some (.int (nI k))), ms_Z q' w1 I1 J1) ∧ ms_G 61 0 [.ref (ms_ad 40 0), .int x] [] (ms_Z q' false I1 J1) = some (.inl (some (.int v)), ms_Z q' w2 I2 J2) ∧ I2 40 0 0 = nI k ∧ k < 3 ∧ (k = 0 → J2 66 0 0 = v.toInt64) ∧ q'.1 = q.1 ∧ q'.2 ≤ q.2 + 1 ∧ I1 0 0 = f ∧ ms_iv f I2 J2 := by
  have hiv := h
  obtain ⟨h0, n, t, g, nm, hd, S, T, X, m, Q, h⟩ := h
  obtain ⟨hA, hSm, hH, hP, hX, hI, hN, hK, hF, hR, hM, hZ⟩ := h
  obtain ⟨a0, a1, a2, b1, b2, b3, b4, b5, n8, tn, g5, t2⟩ := hA
  cases hx : ms_in x 4 with
  | false =>
    have r1 : ms_G 10 0 [.ref (ms_ad 3 0), .int x] [] (ms_Z q false I J) = some (.inr 0, ms_Z (q.1, q.2 + 1) true I J) := by
      by_cases hn : x < nI 0
      · simp (disch := omega) only [↓mi_10_0, ↓mi_10_1, ↓mi_10_9, if_pos hn]
      · have hl := in_nlt (by decide) hx hn
        simp (disch := omega) only [↓mi_10_0, ↓mi_10_1, ↓mi_10_4, ↓mi_10_5, ↓mi_10_6, ↓mi_10_9, if_neg hn, if_neg hl]
    have d := sp_19c (σ := ms_Z (q.1, q.2 + 1) false I J) x (m := 3) (by decide)
    rw [hx] at d
    have r2 : ms_G 61 0 [.ref (ms_ad 40 0), .int x] [] (ms_Z (q.1, q.2 + 1) false I J) = some (.inl (some (.int (nI 0))), ms_Z (q.1, q.2 + 1) true (ms_u I 40 0 (upd (I 40 0) 0 (nI 1))) J) := by
      simp (disch := omega) only [↓mi_61_0, ↓mi_61_1, ↓mi_61_2, ↓mi_61_3, ↓mi_61_6, ↓mi_61_9, ↓mi_61_10, ↓mi_61_11, ↓mi_61_14, cond_true, mz_clv, mz_cln, Bool.false_or, Bool.true_or, Bool.or_false, Bool.or_true, if_true, if_false, ite_self, d, if_pos b_f, sp_18]
    exact ⟨(q.1, q.2 + 1), 1, nI 0, true, true, I, J, _, J, wr_142a r1, r2, by rw [ms_u_s, pk_us], by decide, fun z => absurd z (by decide), rfl, Nat.le_refl _, hiv.1, iv_code hiv _⟩
  | true =>
    obtain ⟨k, hk, rfl⟩ := in_nat (by decide) hx
    by_cases hg : g = 4
    · rw [decide_eq_true hg] at b5
      have r1 : ms_G 10 0 [.ref (ms_ad 3 0), .int (nI k)] [] (ms_Z q false I J) = some (.inl (some (.int (I 29 0 k))), ms_Z q false I J) := by
        simp (disch := omega) only [↓mi_10_0, ↓mi_10_1, ↓mi_10_4, ↓mi_10_5, ↓mi_10_6, ↓mi_10_17, ↓mi_10_18, ↓mi_10_21, ↓mi_10_24, ↓mi_10_25, ↓mi_10_36, ↓mi_10_37, ↓mi_10_40, ↓mi_10_43, ↓mi_10_44, ↓mi_10_45, cond_true, mz_clv, mz_cln, Bool.false_or, Bool.true_or, Bool.or_false, Bool.or_true, if_true, if_false, ite_self, o0_29, na_lt, na_eq, if_neg, if_pos, a2]
      obtain ⟨J1, ej⟩ : ∃ J1, J1 = ms_u J 66 0 (vp_updL (J 66 0) 0 (I 29 0 k).toInt64) := ⟨_, rfl⟩
      have v1 := wr_142v r1
      rw [← ej] at v1
      have d := sp_19c (σ := ms_Z q false I J1) (nI k) (m := 3) (by decide)
      rw [hx] at d
      have e57 : I 57 0 k = I 29 0 k := hSm hg k hk
      have r2 : ms_G 61 0 [.ref (ms_ad 40 0), .int (nI k)] [] (ms_Z q false I J1) = some (.inl (some (.int (I 29 0 k))), ms_Z q true (ms_u I 40 0 (upd (I 40 0) 0 (nI 0))) J1) := by
        simp (disch := omega) only [↓mi_61_0, ↓mi_61_1, ↓mi_61_2, ↓mi_61_3, ↓mi_61_6, ↓mi_61_15, ↓mi_61_16, ↓mi_61_19, ↓mi_61_28, ↓mi_61_29, ↓mi_61_30, ↓mi_61_33, ↓mi_61_34, ↓mi_61_37, ↓mi_61_38, ↓mi_61_39, cond_true, mz_clv, mz_cln, Bool.false_or, Bool.true_or, Bool.or_false, Bool.or_true, if_true, if_false, ite_self, ms_u_s, ms_u_r, ms_u_i, ms_u_u, o0_57, d, b5, if_neg b_t, e57]
      refine ⟨q, 0, I 29 0 k, true, true, I, J1, _, J1, v1, r2, by rw [ms_u_s, pk_us], by decide, fun _ => by rw [ej, ms_u_s, pk_uLs], rfl, by omega, hiv.1, ?_⟩
      rw [ej]
      exact iv_code (iv_out hiv _) _
    · rw [decide_eq_false hg] at b5
      have r1 : ms_G 10 0 [.ref (ms_ad 3 0), .int (nI k)] [] (ms_Z q false I J) = some (.inr 1, ms_Z (q.1, q.2 + 1) true I J) := by
        simp (disch := omega) only [↓mi_10_0, ↓mi_10_1, ↓mi_10_4, ↓mi_10_5, ↓mi_10_6, ↓mi_10_17, ↓mi_10_18, ↓mi_10_21, ↓mi_10_24, ↓mi_10_25, ↓mi_10_28, na_lt, na_eq, if_neg, if_pos, a2]
      have d := sp_19c (σ := ms_Z (q.1, q.2 + 1) false I J) (nI k) (m := 3) (by decide)
      rw [hx] at d
      have r2 : ms_G 61 0 [.ref (ms_ad 40 0), .int (nI k)] [] (ms_Z (q.1, q.2 + 1) false I J) = some (.inl (some (.int (nI 0))), ms_Z (q.1, q.2 + 1) true (ms_u I 40 0 (upd (I 40 0) 0 (nI 2))) J) := by
        simp (disch := omega) only [↓mi_61_0, ↓mi_61_1, ↓mi_61_2, ↓mi_61_3, ↓mi_61_6, ↓mi_61_15, ↓mi_61_16, ↓mi_61_19, ↓mi_61_22, ↓mi_61_23, ↓mi_61_24, ↓mi_61_27, cond_true, mz_clv, mz_cln, Bool.false_or, Bool.true_or, Bool.or_false, Bool.or_true, if_true, if_false, ite_self, d, b5, if_neg b_t, if_pos b_f, sp_18]
      exact ⟨(q.1, q.2 + 1), 2, nI 0, true, true, I, J, _, J, wr_142b r1, r2, by rw [ms_u_s, pk_us], by decide, fun z => absurd z (by decide), rfl, Nat.le_refl _, hiv.1, iv_code hiv _⟩
theorem wr_143a {x y : Int32} (h : ms_G 11 0 [.ref (ms_ad 3 0), .int x, .int y] [] (ms_Z q false I J) = some (.inr 0, ms_Z (q.1, q.2 + 1) true I J)) : ms_G 143 0 [.ref (ms_ad 3 0), .int x, .int y, .ref (ms_ad 66 0), .null] [] (ms_Z q false I J) = some (.inl (some (.int (nI 1))), ms_Z (q.1, q.2 + 1) true I J) := by
  simp (disch := omega) only [↓mi_143_0, ↓mi_143_1, ↓mi_143_2, ↓mi_143_3, ↓mi_143_4, ↓mi_143_5, ↓mi_143_5_t0, ↓mi_143_13, ↓mi_143_15, ↓mi_143_16, h]
theorem wr_143v {x y v : Int32} {w' : Bool} {I' : ms_i} {J' : ms_j} (h : ms_G 11 0 [.ref (ms_ad 3 0), .int x, .int y] [] (ms_Z q false I J) = some (.inl (some (.int v)), ms_Z q w' I' J')) : ms_G 143 0 [.ref (ms_ad 3 0), .int x, .int y, .ref (ms_ad 66 0), .null] [] (ms_Z q false I J) = some (.inl (some (.int (nI 0))), ms_Z q true I' (ms_u J' 66 0 (vp_updL (J' 66 0) 0 v.toInt64))) := by
  simp (disch := omega) only [↓mi_143_0, ↓mi_143_1, ↓mi_143_2, ↓mi_143_3, ↓mi_143_4, ↓mi_143_5, ↓mi_143_5_t0, ↓mi_143_8, ↓mi_143_9, ↓mi_143_10, ↓mi_143_17, ↓mi_143_18, cond_true, mz_clv, mz_cln, Bool.false_or, Bool.true_or, Bool.or_false, Bool.or_true, if_true, if_false, ite_self, o1_66, h]
theorem sp_94 {u i : Nat} (hu : u < 8) (hi : i < 4) : ms_G 94 0 [.ref (ms_ad 31 u), .int (nI i)] [] (ms_Z q false I J) = some (.inl (some (.int (I 31 u (9 + i)))), ms_Z q false I J) := by
  have c : i = 0 ∨ i = 1 ∨ i = 2 ∨ i = 3 := by omega
  rcases c with h | h | h | h
  · subst h
    simp (disch := omega) only [↓mi_94_0, ↓mi_94_1_c0, ↓mi_94_1_c1, ↓mi_94_1_c2, ↓mi_94_1_d, ↓mi_94_28, ↓mi_94_29, ↓mi_94_32]
  · subst h
    simp (disch := omega) only [↓mi_94_0, ↓mi_94_1_c0, ↓mi_94_1_c1, ↓mi_94_1_c2, ↓mi_94_1_d, ↓mi_94_33, ↓mi_94_34, ↓mi_94_37]
  · subst h
    simp (disch := omega) only [↓mi_94_0, ↓mi_94_1_c0, ↓mi_94_1_c1, ↓mi_94_1_c2, ↓mi_94_1_d, ↓mi_94_38, ↓mi_94_39, ↓mi_94_42]
  · subst h
    have d : ∀ L S σ, ms_G 94 1 L (.int (nI 3) :: S) σ = ms_G 94 43 L S σ := fun L S σ => mi_94_1_d (by decide)
    simp (disch := omega) only [mi_94_0, d, ↓mi_94_43, ↓mi_94_44, ↓mi_94_47]
theorem lo_phone {f : Nat → Int32} {x y : Int32} (h : ms_iv f I J) : ∃ (q' : Nat × Nat) (k : Nat) (v : Int32) (w1 w2 : Bool) (I1 : ms_i) (J1 : ms_j) (I2 : ms_i) (J2 : ms_j), ms_G 143 0 [.ref (ms_ad 3 0), .int x, .int y, .ref (ms_ad 66 0), .null] [] (ms_Z q false I J) = some (.inl (some (.int (nI k))), ms_Z q' w1 I1 J1) ∧ ms_G 62 0 [.ref (ms_ad 40 0), .int x, .int y] [] (ms_Z q' false I1 J1) = some (.inl (some (.int v)), ms_Z q' w2 I2 J2) ∧ I2 40 0 0 = nI k ∧ k < 3 ∧ (k = 0 → J2 66 0 0 = v.toInt64) ∧ q'.1 = q.1 ∧ q'.2 ≤ q.2 + 1 ∧ I1 0 0 = f ∧ ms_iv f I2 J2 := by
  have hiv := h
  obtain ⟨h0, n, t, g, nm, hd, S, T, X, m, Q, h⟩ := h
  obtain ⟨hA, hSm, hH, hP, hX, hI, hN, hK, hF, hR, hM, hZ⟩ := h
  obtain ⟨a0, a1, a2, b1, b2, b3, b4, b5, n8, tn, g5, t2⟩ := hA
  have c1 := sp_14 (q := q) (I := I) (J := J) x (show n ≤ 5000 by omega) a0
  have bad : (ms_in x n && ms_in y 4) = false → ∃ (q' : Nat × Nat) (k : Nat) (v : Int32) (w1 w2 : Bool) (I1 : ms_i) (J1 : ms_j) (I2 : ms_i) (J2 : ms_j), ms_G 143 0 [.ref (ms_ad 3 0), .int x, .int y, .ref (ms_ad 66 0), .null] [] (ms_Z q false I J) = some (.inl (some (.int (nI k))), ms_Z q' w1 I1 J1) ∧ ms_G 62 0 [.ref (ms_ad 40 0), .int x, .int y] [] (ms_Z q' false I1 J1) = some (.inl (some (.int v)), ms_Z q' w2 I2 J2) ∧ I2 40 0 0 = nI k ∧ k < 3 ∧ (k = 0 → J2 66 0 0 = v.toInt64) ∧ q'.1 = q.1 ∧ q'.2 ≤ q.2 + 1 ∧ I1 0 0 = f ∧ ms_iv f I2 J2 := by
    intro hb
    have d1 := sp_37 (q := (q.1, q.2 + 1)) (I := I) (J := J) x (show n ≤ 5000 by omega) b1
    have d2 := sp_19c (σ := ms_Z (q.1, q.2 + 1) false I J) y (m := 3) (by decide)
    have fin : ms_G 11 0 [.ref (ms_ad 3 0), .int x, .int y] [] (ms_Z q false I J) = some (.inr 0, ms_Z (q.1, q.2 + 1) true I J) → ms_G 62 0 [.ref (ms_ad 40 0), .int x, .int y] [] (ms_Z (q.1, q.2 + 1) false I J) = some (.inl (some (.int (nI 0))), ms_Z (q.1, q.2 + 1) true (ms_u I 40 0 (upd (I 40 0) 0 (nI 1))) J) → ∃ (q' : Nat × Nat) (k : Nat) (v : Int32) (w1 w2 : Bool) (I1 : ms_i) (J1 : ms_j) (I2 : ms_i) (J2 : ms_j), ms_G 143 0 [.ref (ms_ad 3 0), .int x, .int y, .ref (ms_ad 66 0), .null] [] (ms_Z q false I J) = some (.inl (some (.int (nI k))), ms_Z q' w1 I1 J1) ∧ ms_G 62 0 [.ref (ms_ad 40 0), .int x, .int y] [] (ms_Z q' false I1 J1) = some (.inl (some (.int v)), ms_Z q' w2 I2 J2) ∧ I2 40 0 0 = nI k ∧ k < 3 ∧ (k = 0 → J2 66 0 0 = v.toInt64) ∧ q'.1 = q.1 ∧ q'.2 ≤ q.2 + 1 ∧ I1 0 0 = f ∧ ms_iv f I2 J2 := fun r1 r2 => ⟨(q.1, q.2 + 1), 1, nI 0, true, true, I, J, _, J, wr_143a r1, r2, by rw [ms_u_s, pk_us], by decide, fun z => absurd z (by decide), rfl, Nat.le_refl _, hiv.1, iv_code hiv _⟩
    cases hx : ms_in x n with
    | false =>
      rw [hx] at c1 d1
      refine fin ?_ ?_
      · simp (disch := omega) only [↓mi_11_0, ↓mi_11_1, ↓mi_11_2, ↓mi_11_5, ↓mi_11_17, cond_true, mz_clv, mz_cln, Bool.false_or, Bool.true_or, Bool.or_false, Bool.or_true, if_true, if_false, ite_self, c1, if_pos b_f]
      · simp (disch := omega) only [↓mi_62_0, ↓mi_62_1, ↓mi_62_2, ↓mi_62_3, ↓mi_62_6, ↓mi_62_22, ↓mi_62_23, ↓mi_62_26, ↓mi_62_27, ↓mi_62_30, ↓mi_62_33, ↓mi_62_34, cond_true, mz_clv, mz_cln, Bool.false_or, Bool.true_or, Bool.or_false, Bool.or_true, if_true, if_false, ite_self, ms_u_s, ms_u_r, ms_u_i, ms_u_u, pk_us, d1, if_pos b_f, na_le, if_neg]
    | true =>
      rw [hx, Bool.true_and] at hb
      rw [hx] at c1 d1
      rw [hb] at d2
      refine fin ?_ ?_
      · by_cases hn : y < nI 0
        · simp (disch := omega) only [↓mi_11_0, ↓mi_11_1, ↓mi_11_2, ↓mi_11_5, ↓mi_11_8, ↓mi_11_9, ↓mi_11_17, cond_true, mz_clv, mz_cln, Bool.false_or, Bool.true_or, Bool.or_false, Bool.or_true, if_true, if_false, ite_self, c1, if_neg b_t, if_pos hn]
        · have hl : ¬ y ≤ nI 3 := fun z => by
            have a := (in_bad (by decide) hb).resolve_left hn
            rw [Int32.le_iff_toInt_le] at z a
            rw [nI_toInt (by decide)] at z a
            omega
          simp (disch := omega) only [↓mi_11_0, ↓mi_11_1, ↓mi_11_2, ↓mi_11_5, ↓mi_11_8, ↓mi_11_9, ↓mi_11_12, ↓mi_11_13, ↓mi_11_14, ↓mi_11_17, cond_true, mz_clv, mz_cln, Bool.false_or, Bool.true_or, Bool.or_false, Bool.or_true, if_true, if_false, ite_self, c1, if_neg b_t, if_neg hn, if_neg hl]
      · simp (disch := omega) only [↓mi_62_0, ↓mi_62_1, ↓mi_62_2, ↓mi_62_3, ↓mi_62_6, ↓mi_62_9, ↓mi_62_10, ↓mi_62_11, ↓mi_62_12, ↓mi_62_15, ↓mi_62_22, ↓mi_62_23, ↓mi_62_26, ↓mi_62_27, ↓mi_62_30, ↓mi_62_33, ↓mi_62_34, cond_true, mz_clv, mz_cln, Bool.false_or, Bool.true_or, Bool.or_false, Bool.or_true, if_true, if_false, ite_self, ms_u_s, ms_u_r, ms_u_i, ms_u_u, pk_us, d1, d2, if_neg b_t, if_pos b_f, na_le, if_neg]
  cases hx : ms_in x n with
  | false => exact bad (by rw [hx]; rfl)
  | true =>
    cases hy : ms_in y 4 with
    | false => exact bad (by rw [hy]; exact Bool.and_false _)
    | true =>
      have hx' := hx
      have hy' := hy
      obtain ⟨u, hu, rfl⟩ := in_nat (by omega) hx
      obtain ⟨i, hi, rfl⟩ := in_nat (by decide) hy
      rw [hx'] at c1
      obtain ⟨p1, p2, p3, p4, p5, p6, p7, p8, p9, p10, p11⟩ := hP u (by omega)
      have c2 := sp_94 (q := q) (I := I) (J := J) (show u < 8 by omega) hi
      have r1 : ms_G 11 0 [.ref (ms_ad 3 0), .int (nI u), .int (nI i)] [] (ms_Z q false I J) = some (.inl (some (.int (I 31 u (9 + i)))), ms_Z q false I J) := by
        simp (disch := omega) only [↓mi_11_0, ↓mi_11_1, ↓mi_11_2, ↓mi_11_5, ↓mi_11_8, ↓mi_11_9, ↓mi_11_12, ↓mi_11_13, ↓mi_11_14, ↓mi_11_25, ↓mi_11_26, ↓mi_11_29, ↓mi_11_30, ↓mi_11_31, ↓mi_11_32, ↓mi_11_35, cond_true, mz_clv, mz_cln, Bool.false_or, Bool.true_or, Bool.or_false, Bool.or_true, if_true, if_false, ite_self, o2_30, er_30, c1, if_neg b_t, na_lt, na_le, if_neg, if_pos, c2]
      obtain ⟨J1, ej⟩ : ∃ J1, J1 = ms_u J 66 0 (vp_updL (J 66 0) 0 (I 31 u (9 + i)).toInt64) := ⟨_, rfl⟩
      have v1 := wr_143v r1
      rw [← ej] at v1
      have d1 := sp_37 (q := q) (I := I) (J := J1) (nI u) (show n ≤ 5000 by omega) b1
      have d2 := sp_19c (σ := ms_Z q false I J1) (nI i) (m := 3) (by decide)
      rw [hx'] at d1
      rw [hy'] at d2
      have r2 : ms_G 62 0 [.ref (ms_ad 40 0), .int (nI u), .int (nI i)] [] (ms_Z q false I J1) = some (.inl (some (.int (I 31 u (9 + i)))), ms_Z q true (ms_u I 40 0 (upd (I 40 0) 0 (nI 0))) J1) := by
        have c : i = 0 ∨ i = 1 ∨ i = 2 ∨ i = 3 := by omega
        rcases c with h | h | h | h
        · subst h
          have e : I 43 0 u = I 31 u (9 + 0) := by rw [p2]; exact p1.symm
          simp (disch := omega) only [↓mi_62_0, ↓mi_62_1, ↓mi_62_2, ↓mi_62_3, ↓mi_62_6, ↓mi_62_9, ↓mi_62_10, ↓mi_62_11, ↓mi_62_12, ↓mi_62_15, ↓mi_62_18, ↓mi_62_19, ↓mi_62_22, ↓mi_62_23, ↓mi_62_26, ↓mi_62_27, ↓mi_62_30, ↓mi_62_35, ↓mi_62_36, ↓mi_62_39, ↓mi_62_40, ↓mi_62_43, ↓mi_62_44, ↓mi_62_45, ↓mi_62_82, cond_true, mz_clv, mz_cln, Bool.false_or, Bool.true_or, Bool.or_false, Bool.or_true, if_true, if_false, ite_self, ms_u_s, ms_u_r, ms_u_i, ms_u_u, o0_43, pk_us, d1, d2, if_neg b_t, na_le, na_eq, if_neg, if_pos, e]
        · subst h
          have e : I 44 0 u = I 31 u (9 + 1) := by rw [p4]; exact p3.symm
          simp (disch := omega) only [↓mi_62_0, ↓mi_62_1, ↓mi_62_2, ↓mi_62_3, ↓mi_62_6, ↓mi_62_9, ↓mi_62_10, ↓mi_62_11, ↓mi_62_12, ↓mi_62_15, ↓mi_62_18, ↓mi_62_19, ↓mi_62_22, ↓mi_62_23, ↓mi_62_26, ↓mi_62_27, ↓mi_62_30, ↓mi_62_35, ↓mi_62_36, ↓mi_62_48, ↓mi_62_49, ↓mi_62_50, ↓mi_62_53, ↓mi_62_54, ↓mi_62_57, ↓mi_62_58, ↓mi_62_59, ↓mi_62_82, cond_true, mz_clv, mz_cln, Bool.false_or, Bool.true_or, Bool.or_false, Bool.or_true, if_true, if_false, ite_self, ms_u_s, ms_u_r, ms_u_i, ms_u_u, o0_44, pk_us, d1, d2, if_neg b_t, na_le, na_eq, if_neg, if_pos, e]
        · subst h
          have e : I 45 0 u = I 31 u (9 + 2) := p9.symm
          simp (disch := omega) only [↓mi_62_0, ↓mi_62_1, ↓mi_62_2, ↓mi_62_3, ↓mi_62_6, ↓mi_62_9, ↓mi_62_10, ↓mi_62_11, ↓mi_62_12, ↓mi_62_15, ↓mi_62_18, ↓mi_62_19, ↓mi_62_22, ↓mi_62_23, ↓mi_62_26, ↓mi_62_27, ↓mi_62_30, ↓mi_62_35, ↓mi_62_36, ↓mi_62_48, ↓mi_62_49, ↓mi_62_50, ↓mi_62_62, ↓mi_62_63, ↓mi_62_64, ↓mi_62_67, ↓mi_62_68, ↓mi_62_71, ↓mi_62_72, ↓mi_62_73, ↓mi_62_82, cond_true, mz_clv, mz_cln, Bool.false_or, Bool.true_or, Bool.or_false, Bool.or_true, if_true, if_false, ite_self, ms_u_s, ms_u_r, ms_u_i, ms_u_u, o0_45, pk_us, d1, d2, if_neg b_t, na_le, na_eq, if_neg, if_pos, e]
        · subst h
          have e : I 46 0 u = I 31 u (9 + 3) := p10.symm
          simp (disch := omega) only [↓mi_62_0, ↓mi_62_1, ↓mi_62_2, ↓mi_62_3, ↓mi_62_6, ↓mi_62_9, ↓mi_62_10, ↓mi_62_11, ↓mi_62_12, ↓mi_62_15, ↓mi_62_18, ↓mi_62_19, ↓mi_62_22, ↓mi_62_23, ↓mi_62_26, ↓mi_62_27, ↓mi_62_30, ↓mi_62_35, ↓mi_62_36, ↓mi_62_48, ↓mi_62_49, ↓mi_62_50, ↓mi_62_62, ↓mi_62_63, ↓mi_62_64, ↓mi_62_76, ↓mi_62_77, ↓mi_62_80, ↓mi_62_81, ↓mi_62_82, cond_true, mz_clv, mz_cln, Bool.false_or, Bool.true_or, Bool.or_false, Bool.or_true, if_true, if_false, ite_self, ms_u_s, ms_u_r, ms_u_i, ms_u_u, o0_46, pk_us, d1, d2, if_neg b_t, na_le, na_eq, if_neg, if_pos, e]
      refine ⟨q, 0, I 31 u (9 + i), true, true, I, J1, _, J1, v1, r2, by rw [ms_u_s, pk_us], by decide, fun _ => by rw [ej, ms_u_s, pk_uLs], rfl, by omega, hiv.1, ?_⟩
      rw [ej]
      exact iv_code (iv_out hiv _) _
theorem lo_count {f : Nat → Int32} {x : Int32} (h : ms_iv f I J) : ∃ (v : Int32) (I2 : ms_i), ms_G 12 0 [.ref (ms_ad 3 0), .int x] [] (ms_Z q false I J) = some (.inl (some (.int v)), ms_Z q false I J) ∧ ms_G 63 0 [.ref (ms_ad 40 0), .int x] [] (ms_Z q false I J) = some (.inl (some (.int v)), ms_Z q true I2 J) ∧ ms_iv f I2 J := by
  have hiv := h
  obtain ⟨h0, n, t, g, nm, hd, S, T, X, m, Q, h⟩ := h
  obtain ⟨hA, hSm, hH, hP, hX, hI, hN, hK, hF, hR, hM, hZ⟩ := h
  obtain ⟨a0, a1, a2, b1, b2, b3, b4, b5, n8, tn, g5, t2⟩ := hA
  have s14 := hM.2.1
  have s40 := hM.2.2.1
  obtain ⟨I0, e0⟩ : ∃ I0, I0 = ms_u I 40 0 (upd (I 40 0) 0 (nI 0)) := ⟨_, rfl⟩
  have hi0 : ms_iv f I0 J := by rw [e0]; exact iv_code hiv _
  have z40 : ∀ k, k ≠ 0 → I0 40 0 k = I 40 0 k := fun k hk => by rw [e0, ms_u_s, pk_un hk]
  have zr : ∀ r u, r ≠ 40 → I0 r u = I r u := fun r u hr => by rw [e0, ms_u_r _ _ _ _ hr]
  have mst : ms_G 63 0 [.ref (ms_ad 40 0), .int x] [] (ms_Z q false I J) = ms_G 63 6 [.ref (ms_ad 40 0), .int x] [.int x] (ms_Z q true I0 J) := by
    simp (disch := omega) only [↓mi_63_0, ↓mi_63_1, ↓mi_63_2, ↓mi_63_5, ← e0]
  cases hx : ms_in x 7 with
  | false =>
    have hb := in_badI hx
    have d1 : ∀ L S σ, ms_G 118 1 L (.int x :: S) σ = ms_G 118 64 L S σ := fun L S σ => mi_118_1_d (by omega)
    have d2 : ∀ L S σ, ms_G 63 6 L (.int x :: S) σ = ms_G 63 96 L S σ := fun L S σ => mi_63_6_d (by omega)
    have hne : ¬ x = nI 0 := fun z => by rw [z, nI_toInt (by decide)] at hb; omega
    refine ⟨-1, I0, ?_, ?_, hi0⟩
    · simp (disch := omega) only [↓mi_12_0, ↓mi_12_1, ↓mi_12_14, ↓mi_12_15, ↓mi_12_18, ↓mi_12_19, ↓mi_12_22, if_neg hne, mi_118_0, d1, ↓mi_118_64, ↓mi_118_65, cond_true, mz_clv, mz_cln, Bool.false_or, Bool.true_or, Bool.or_false, Bool.or_true, if_true, if_false, ite_self]
    · rw [mst, d2]
      simp (disch := omega) only [↓mi_63_96, ↓mi_63_97]
  | true =>
    obtain ⟨i, hi, rfl⟩ := in_nat (by decide) hx
    have c : i = 0 ∨ i = 1 ∨ i = 2 ∨ i = 3 ∨ i = 4 ∨ i = 5 ∨ i = 6 := by omega
    rcases c with h | h | h | h | h | h | h
    · subst h
      refine ⟨nI m, I0, ?_, ?_, hi0⟩
      · simp (disch := omega) only [↓mi_12_0, ↓mi_12_1, ↓mi_12_4, ↓mi_12_5, ↓mi_12_8, ↓mi_12_11, ↓mi_12_22, cond_true, mz_clv, mz_cln, Bool.false_or, Bool.true_or, Bool.or_false, Bool.or_true, if_true, if_false, ite_self, na_eq, if_pos, s14]
      · rw [mst]
        simp (disch := omega) only [↓mi_63_6_c0, ↓mi_63_6_c1, ↓mi_63_6_c2, ↓mi_63_6_c3, ↓mi_63_6_c4, ↓mi_63_6_c5, ↓mi_63_6_c6, ↓mi_63_6_d, ↓mi_63_48, ↓mi_63_49, ↓mi_63_52, z40 20 (by decide), s40]
    · subst h
      refine ⟨nI g, I0, ?_, ?_, hi0⟩
      · simp (disch := omega) only [↓mi_12_0, ↓mi_12_1, ↓mi_12_14, ↓mi_12_15, ↓mi_12_18, ↓mi_12_19, ↓mi_12_22, ↓mi_118_0, ↓mi_118_1_c1, ↓mi_118_1_c2, ↓mi_118_1_c3, ↓mi_118_1_c4, ↓mi_118_1_c5, ↓mi_118_1_c6, ↓mi_118_1_d, ↓mi_118_40, ↓mi_118_41, ↓mi_118_44, cond_true, mz_clv, mz_cln, Bool.false_or, Bool.true_or, Bool.or_false, Bool.or_true, if_true, if_false, ite_self, na_eq, if_neg, a2]
      · rw [mst]
        simp (disch := omega) only [↓mi_63_6_c0, ↓mi_63_6_c1, ↓mi_63_6_c2, ↓mi_63_6_c3, ↓mi_63_6_c4, ↓mi_63_6_c5, ↓mi_63_6_c6, ↓mi_63_6_d, ↓mi_63_53, ↓mi_63_54, ↓mi_63_57, z40 3 (by decide), b3]
    · subst h
      refine ⟨I 19 0 3, I0, ?_, ?_, hi0⟩
      · simp (disch := omega) only [↓mi_12_0, ↓mi_12_1, ↓mi_12_14, ↓mi_12_15, ↓mi_12_18, ↓mi_12_19, ↓mi_12_22, ↓mi_118_0, ↓mi_118_1_c1, ↓mi_118_1_c2, ↓mi_118_1_c3, ↓mi_118_1_c4, ↓mi_118_1_c5, ↓mi_118_1_c6, ↓mi_118_1_d, ↓mi_118_45, ↓mi_118_46, ↓mi_118_49, cond_true, mz_clv, mz_cln, Bool.false_or, Bool.true_or, Bool.or_false, Bool.or_true, if_true, if_false, ite_self, na_eq, if_neg]
      · rw [mst]
        simp (disch := omega) only [↓mi_63_6_c0, ↓mi_63_6_c1, ↓mi_63_6_c2, ↓mi_63_6_c3, ↓mi_63_6_c4, ↓mi_63_6_c5, ↓mi_63_6_c6, ↓mi_63_6_d, ↓mi_63_58, ↓mi_63_59, ↓mi_63_62, z40 4 (by decide), b4]
    · subst h
      have e1 := (hH.1 0 (by decide)).2.1
      have e2 := (hH.1 0 (by decide)).2.2
      refine ⟨nI (nm 0), I0, ?_, ?_, hi0⟩
      · simp (disch := omega) only [↓mi_12_0, ↓mi_12_1, ↓mi_12_14, ↓mi_12_15, ↓mi_12_18, ↓mi_12_19, ↓mi_12_22, ↓mi_118_0, ↓mi_118_1_c1, ↓mi_118_1_c2, ↓mi_118_1_c3, ↓mi_118_1_c4, ↓mi_118_1_c5, ↓mi_118_1_c6, ↓mi_118_1_d, ↓mi_118_50, ↓mi_118_51, ↓mi_118_54, ↓mi_118_55, ↓mi_118_56, ↓mi_118_57, ↓mi_118_58, cond_true, mz_clv, mz_cln, Bool.false_or, Bool.true_or, Bool.or_false, Bool.or_true, if_true, if_false, ite_self, o0_20, pk_sub, na_eq, if_neg, Nat.sub_self, e1]
      · rw [mst]
        simp (disch := omega) only [↓mi_63_6_c0, ↓mi_63_6_c1, ↓mi_63_6_c2, ↓mi_63_6_c3, ↓mi_63_6_c4, ↓mi_63_6_c5, ↓mi_63_6_c6, ↓mi_63_6_d, ↓mi_63_63, ↓mi_63_64, ↓mi_63_67, ↓mi_63_68, ↓mi_63_69, ↓mi_63_70, ↓mi_63_71, cond_true, mz_clv, mz_cln, Bool.false_or, Bool.true_or, Bool.or_false, Bool.or_true, if_true, if_false, ite_self, o0_50, pk_sub, zr 50 0 (by decide), Nat.sub_self, e2]
    · subst h
      have e1 : I 20 0 (4 - 3) = nI (nm 1) := (hH.1 1 (by decide)).2.1
      have e2 : I 50 0 (4 - 3) = nI (nm 1) := (hH.1 1 (by decide)).2.2
      refine ⟨nI (nm 1), I0, ?_, ?_, hi0⟩
      · simp (disch := omega) only [↓mi_12_0, ↓mi_12_1, ↓mi_12_14, ↓mi_12_15, ↓mi_12_18, ↓mi_12_19, ↓mi_12_22, ↓mi_118_0, ↓mi_118_1_c1, ↓mi_118_1_c2, ↓mi_118_1_c3, ↓mi_118_1_c4, ↓mi_118_1_c5, ↓mi_118_1_c6, ↓mi_118_1_d, ↓mi_118_50, ↓mi_118_51, ↓mi_118_54, ↓mi_118_55, ↓mi_118_56, ↓mi_118_57, ↓mi_118_58, cond_true, mz_clv, mz_cln, Bool.false_or, Bool.true_or, Bool.or_false, Bool.or_true, if_true, if_false, ite_self, o0_20, pk_sub, na_eq, if_neg, e1]
      · rw [mst]
        simp (disch := omega) only [↓mi_63_6_c0, ↓mi_63_6_c1, ↓mi_63_6_c2, ↓mi_63_6_c3, ↓mi_63_6_c4, ↓mi_63_6_c5, ↓mi_63_6_c6, ↓mi_63_6_d, ↓mi_63_63, ↓mi_63_64, ↓mi_63_67, ↓mi_63_68, ↓mi_63_69, ↓mi_63_70, ↓mi_63_71, cond_true, mz_clv, mz_cln, Bool.false_or, Bool.true_or, Bool.or_false, Bool.or_true, if_true, if_false, ite_self, o0_50, pk_sub, zr 50 0 (by decide), e2]
    · subst h
      have e1 : I 20 0 (5 - 3) = nI (nm 2) := (hH.1 2 (by decide)).2.1
      have e2 : I 50 0 (5 - 3) = nI (nm 2) := (hH.1 2 (by decide)).2.2
      refine ⟨nI (nm 2), I0, ?_, ?_, hi0⟩
      · simp (disch := omega) only [↓mi_12_0, ↓mi_12_1, ↓mi_12_14, ↓mi_12_15, ↓mi_12_18, ↓mi_12_19, ↓mi_12_22, ↓mi_118_0, ↓mi_118_1_c1, ↓mi_118_1_c2, ↓mi_118_1_c3, ↓mi_118_1_c4, ↓mi_118_1_c5, ↓mi_118_1_c6, ↓mi_118_1_d, ↓mi_118_50, ↓mi_118_51, ↓mi_118_54, ↓mi_118_55, ↓mi_118_56, ↓mi_118_57, ↓mi_118_58, cond_true, mz_clv, mz_cln, Bool.false_or, Bool.true_or, Bool.or_false, Bool.or_true, if_true, if_false, ite_self, o0_20, pk_sub, na_eq, if_neg, e1]
      · rw [mst]
        simp (disch := omega) only [↓mi_63_6_c0, ↓mi_63_6_c1, ↓mi_63_6_c2, ↓mi_63_6_c3, ↓mi_63_6_c4, ↓mi_63_6_c5, ↓mi_63_6_c6, ↓mi_63_6_d, ↓mi_63_63, ↓mi_63_64, ↓mi_63_67, ↓mi_63_68, ↓mi_63_69, ↓mi_63_70, ↓mi_63_71, cond_true, mz_clv, mz_cln, Bool.false_or, Bool.true_or, Bool.or_false, Bool.or_true, if_true, if_false, ite_self, o0_50, pk_sub, zr 50 0 (by decide), e2]
    · subst h
      have e1 := hH.2.2.1
      refine ⟨nI hd, I0, ?_, ?_, hi0⟩
      · simp (disch := omega) only [↓mi_12_0, ↓mi_12_1, ↓mi_12_14, ↓mi_12_15, ↓mi_12_18, ↓mi_12_19, ↓mi_12_22, ↓mi_118_0, ↓mi_118_1_c1, ↓mi_118_1_c2, ↓mi_118_1_c3, ↓mi_118_1_c4, ↓mi_118_1_c5, ↓mi_118_1_c6, ↓mi_118_1_d, ↓mi_118_59, ↓mi_118_60, ↓mi_118_63, cond_true, mz_clv, mz_cln, Bool.false_or, Bool.true_or, Bool.or_false, Bool.or_true, if_true, if_false, ite_self, na_eq, if_neg, e1]
      · have o := sp_36 (q := q) (I := I0) (J := J) g5 (by rw [z40 3 (by decide)]; exact b3)
        rw [mst]
        by_cases hg : g < 4
        · rw [decide_eq_true hg] at o
          have e2 := (hH.2.2.2.1 hg).1
          simp (disch := omega) only [↓mi_63_6_c0, ↓mi_63_6_c1, ↓mi_63_6_c2, ↓mi_63_6_c3, ↓mi_63_6_c4, ↓mi_63_6_c5, ↓mi_63_6_c6, ↓mi_63_6_d, ↓mi_63_72, ↓mi_63_73, ↓mi_63_76, ↓mi_63_77, ↓mi_63_80, ↓mi_63_83, ↓mi_63_84, ↓mi_63_87, ↓mi_63_94, ↓mi_63_95, cond_true, mz_clv, mz_cln, Bool.false_or, Bool.true_or, Bool.or_false, Bool.or_true, if_true, if_false, ite_self, o0_51, o, if_neg b_t, z40 3 (by decide), b3, zr 51 0 (by decide), e2]
        · rw [decide_eq_false hg] at o
          obtain ⟨l, hl, e2, e3⟩ := hH.2.2.2.2 (by omega)
          simp (disch := omega) only [↓mi_63_6_c0, ↓mi_63_6_c1, ↓mi_63_6_c2, ↓mi_63_6_c3, ↓mi_63_6_c4, ↓mi_63_6_c5, ↓mi_63_6_c6, ↓mi_63_6_d, ↓mi_63_72, ↓mi_63_73, ↓mi_63_76, ↓mi_63_77, ↓mi_63_80, ↓mi_63_90, ↓mi_63_91, ↓mi_63_94, ↓mi_63_95, cond_true, mz_clv, mz_cln, Bool.false_or, Bool.true_or, Bool.or_false, Bool.or_true, if_true, if_false, ite_self, o0_51, o, if_pos b_f, z40 33 (by decide), e2, zr 51 0 (by decide), e3]
theorem wr_144a {x y a b k : Int32} (h : ms_G 13 0 [.ref (ms_ad 3 0), .int x, .int y, .int a, .int b, .int k] [] (ms_Z q false I J) = some (.inr 0, ms_Z (q.1, q.2 + 1) true I J)) : ms_G 144 0 [.ref (ms_ad 3 0), .int x, .int y, .int a, .int b, .int k, .ref (ms_ad 66 0), .null] [] (ms_Z q false I J) = some (.inl (some (.int (nI 1))), ms_Z (q.1, q.2 + 1) true I J) := by
  simp (disch := omega) only [↓mi_144_0, ↓mi_144_2, ↓mi_144_3, ↓mi_144_4, ↓mi_144_5, ↓mi_144_6, ↓mi_144_7, ↓mi_144_9, ↓mi_144_11, ↓mi_144_11_t0, ↓mi_144_19, ↓mi_144_21, ↓mi_144_22, h]
theorem wr_144v {x y a b k v : Int32} {w' : Bool} {I' : ms_i} {J' : ms_j} (h : ms_G 13 0 [.ref (ms_ad 3 0), .int x, .int y, .int a, .int b, .int k] [] (ms_Z q false I J) = some (.inl (some (.int v)), ms_Z q w' I' J')) : ms_G 144 0 [.ref (ms_ad 3 0), .int x, .int y, .int a, .int b, .int k, .ref (ms_ad 66 0), .null] [] (ms_Z q false I J) = some (.inl (some (.int (nI 0))), ms_Z q true I' (ms_u J' 66 0 (vp_updL (J' 66 0) 0 v.toInt64))) := by
  simp (disch := omega) only [↓mi_144_0, ↓mi_144_2, ↓mi_144_3, ↓mi_144_4, ↓mi_144_5, ↓mi_144_6, ↓mi_144_7, ↓mi_144_9, ↓mi_144_11, ↓mi_144_11_t0, ↓mi_144_14, ↓mi_144_15, ↓mi_144_16, ↓mi_144_23, ↓mi_144_24, cond_true, mz_clv, mz_cln, Bool.false_or, Bool.true_or, Bool.or_false, Bool.or_true, if_true, if_false, ite_self, o1_66, h]
theorem lo_stream {f : Nat → Int32} {x y a b c : Int32} (h : ms_iv f I J) : ∃ (q' : Nat × Nat) (k : Nat) (v : Int32) (w1 w2 : Bool) (I1 : ms_i) (J1 : ms_j) (I2 : ms_i) (J2 : ms_j), ms_G 144 0 [.ref (ms_ad 3 0), .int x, .int y, .int a, .int b, .int c, .ref (ms_ad 66 0), .null] [] (ms_Z q false I J) = some (.inl (some (.int (nI k))), ms_Z q' w1 I1 J1) ∧ ms_G 64 0 [.ref (ms_ad 40 0), .int x, .int y, .int a, .int b, .int c] [] (ms_Z q' false I1 J1) = some (.inl (some (.int v)), ms_Z q' w2 I2 J2) ∧ I2 40 0 0 = nI k ∧ k < 3 ∧ (k = 0 → J2 66 0 0 = v.toInt64) ∧ q'.1 = q.1 ∧ q'.2 ≤ q.2 + 1 ∧ I1 0 0 = f ∧ ms_iv f I2 J2 := by
  have hiv := h
  obtain ⟨h0, n, t, g, nm, hd, S, T, X, m, Q, h⟩ := h
  have hinv := h
  obtain ⟨hA, hSm, hH, hP, hX, hI, hN, hK, hF, hR, hM, hZ⟩ := h
  cases hc : ms_in c 64 with
  | false =>
    have r1 : ms_G 13 0 [.ref (ms_ad 3 0), .int x, .int y, .int a, .int b, .int c] [] (ms_Z q false I J) = some (.inr 0, ms_Z (q.1, q.2 + 1) true I J) := by
      by_cases hn : c < nI 0
      · simp (disch := omega) only [↓mi_13_0, ↓mi_13_2, ↓mi_13_12, if_pos hn]
      · have hl := in_nlt (by decide) hc hn
        simp (disch := omega) only [↓mi_13_0, ↓mi_13_2, ↓mi_13_5, ↓mi_13_7, ↓mi_13_9, ↓mi_13_12, if_neg hn, if_neg hl]
    have d := sp_19c (σ := ms_Z (q.1, q.2 + 1) false I J) c (m := 63) (by decide)
    rw [hc] at d
    have r2 : ms_G 64 0 [.ref (ms_ad 40 0), .int x, .int y, .int a, .int b, .int c] [] (ms_Z (q.1, q.2 + 1) false I J) = some (.inl (some (.int (nI 0))), ms_Z (q.1, q.2 + 1) true (ms_u I 40 0 (upd (I 40 0) 0 (nI 1))) J) := by
      simp (disch := omega) only [↓mi_64_0, ↓mi_64_1, ↓mi_64_3, ↓mi_64_4, ↓mi_64_6, ↓mi_64_9, ↓mi_64_16, ↓mi_64_17, ↓mi_64_20, ↓mi_64_21, ↓mi_64_24, ↓mi_64_27, ↓mi_64_28, ↓mi_64_45, cond_true, mz_clv, mz_cln, Bool.false_or, Bool.true_or, Bool.or_false, Bool.or_true, if_true, if_false, ite_self, ms_u_s, ms_u_r, ms_u_i, ms_u_u, pk_us, d, if_pos b_f, na_le, if_neg]
    exact ⟨(q.1, q.2 + 1), 1, nI 0, true, true, I, J, _, J, wr_144a r1, r2, by rw [ms_u_s, pk_us], by decide, fun z => absurd z (by decide), rfl, Nat.le_refl _, hiv.1, iv_code hiv _⟩
  | true =>
    have hc' := hc
    obtain ⟨k, hk, rfl⟩ := in_nat (by decide) hc
    have ln := ms_num_lt x y
    obtain ⟨v, ev⟩ : ∃ v, v = ms_blk (ms_num x y) (nI (k / 16)) a b (nI 0) (k % 16) := ⟨_, rfl⟩
    have c1 := sp_69 (q := q) (I := I) (J := J) (v := ms_num x y) (a := a) (b := b) (n := nI (k / 16)) ln
    obtain ⟨I1, e1⟩ : ∃ I1, I1 = ms_bkI I (ms_num x y) (nI (k / 16)) a b (nI 0) := ⟨_, rfl⟩
    rw [← e1] at c1
    have w7 : I1 7 0 (k % 16) = v := by rw [e1, bk_word hZ (by omega), ev]
    have dv : nI k / nI 16 = nI (k / 16) := by
      have h := pk_div (a := k) (d := 16) (by omega) (by decide) (by decide)
      exact h
    have dm : nI k - nI (k / 16) * nI 16 = nI (k % 16) := na_rem2 k 16
    have r1 : ms_G 13 0 [.ref (ms_ad 3 0), .int x, .int y, .int a, .int b, .int (nI k)] [] (ms_Z q false I J) = some (.inl (some (.int v)), ms_Z q true I1 J) := by
      simp (disch := omega) only [↓mi_13_0, ↓mi_13_2, ↓mi_13_5, ↓mi_13_7, ↓mi_13_9, ↓mi_13_20, ↓mi_13_21, ↓mi_13_24, ↓mi_13_25, ↓mi_13_26, ↓mi_13_29, ↓mi_13_30, ↓mi_13_32, ↓mi_13_34, ↓mi_13_36, ↓mi_13_37, ↓mi_13_40, ↓mi_13_42, ↓mi_13_44, ↓mi_13_45, ↓mi_13_46, cond_true, mz_clv, mz_cln, Bool.false_or, Bool.true_or, Bool.or_false, Bool.or_true, if_true, if_false, ite_self, o0_7, na_lt, if_neg, if_pos, sp_84, dv, c1, dm, w7]
    obtain ⟨J1, ej⟩ : ∃ J1, J1 = ms_u J 66 0 (vp_updL (J 66 0) 0 v.toInt64) := ⟨_, rfl⟩
    have v1 := wr_144v r1
    rw [← ej] at v1
    obtain ⟨I0, e0⟩ : ∃ I0, I0 = ms_u I1 40 0 (upd (I1 40 0) 0 (nI 0)) := ⟨_, rfl⟩
    have d := sp_19c (σ := ms_Z q false I1 J1) (nI k) (m := 63) (by decide)
    rw [hc'] at d
    have d2 := sp_27 (q := q) (I := I0) (J := J1) (v := ms_num x y) (a := a) (b := b) (k := k) ln hk
    rw [← ev] at d2
    have z40 : I0 40 0 0 = nI 0 := by rw [e0, ms_u_s, pk_us]
    have r2 : ms_G 64 0 [.ref (ms_ad 40 0), .int x, .int y, .int a, .int b, .int (nI k)] [] (ms_Z q false I1 J1) = some (.inl (some (.int v)), ms_Z q true (ms_mxI I0 (ms_num x y) (nI (k / 16)) a b (nI 0)) J1) := by
      simp (disch := omega) only [↓mi_64_0, ↓mi_64_1, ↓mi_64_3, ↓mi_64_4, ↓mi_64_6, ↓mi_64_9, ↓mi_64_12, ↓mi_64_13, ↓mi_64_16, ↓mi_64_17, cond_true, mz_clv, mz_cln, Bool.false_or, Bool.true_or, Bool.or_false, Bool.or_true, if_true, if_false, ite_self, d, if_neg b_t, ← e0]
      simp (disch := omega) only [↓mi_64_20, ↓mi_64_21, ↓mi_64_24, ↓mi_64_31, ↓mi_64_32, ↓mi_64_33, ↓mi_64_34, ↓mi_64_37, ↓mi_64_38, ↓mi_64_40, ↓mi_64_42, ↓mi_64_45, cond_true, mz_clv, mz_cln, Bool.false_or, Bool.true_or, Bool.or_false, Bool.or_true, if_true, if_false, ite_self, z40, na_le, if_pos, sp_23, d2]
    refine ⟨q, 0, v, true, true, I1, J1, _, J1, v1, r2, by rw [mx_else (by decide) (by decide), z40], by decide, fun _ => by rw [ej, ms_u_s, pk_uLs], rfl, by omega, by rw [e1, bk_else (by decide) (by decide)]; exact h0, ?_, n, t, g, nm, hd, S, T, X, m, Q, iv_keep hinv ?_ ?_ ?_ ?_⟩
    · rw [mx_else (by decide) (by decide), e0, ms_u_r _ _ _ _ (by decide), e1, bk_else (by decide) (by decide)]
      exact h0
    · intro r hr
      funext u
      simp only [List.mem_cons, List.not_mem_nil, or_false, not_or] at hr
      rw [mx_else (by omega) (by omega), e0, ms_u_r _ _ _ _ (by omega), e1, bk_else (by omega) (by omega)]
    · intro j hj
      rw [mx_else (by decide) (by decide), e0, ms_u_s, pk_un hj, e1, bk_else (by decide) (by decide)]
    · rw [ej]
      exact fr_u rfl
    · intro j j1 j2
      rw [mx_else (by decide) (by decide), e0, ms_u_r _ _ _ _ (by decide), e1]
      exact bk_keep hZ j j1 j2
end Ops
