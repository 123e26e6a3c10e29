/-! SECRET, INPUT, START. -/
section Set
variable {q : Nat × Nat} {w : Bool} {I : ms_i} {J : ms_j} {σ : ms_M}
theorem wr_134a {x y a b : Int32} (h : ms_G 2 0 [.ref (ms_ad 3 0), .int x, .int y, .int a, .int b] [] (ms_Z q false I J) = some (.inr 0, ms_Z (q.1, q.2 + 1) true I J)) : ms_G 134 0 [.ref (ms_ad 3 0), .int x, .int y, .int a, .int b, .null] [] (ms_Z q false I J) = some (.inl (some (.int (nI 1))), ms_Z (q.1, q.2 + 1) true I J) := by
  simp (disch := omega) only [↓mi_134_0, ↓mi_134_1, ↓mi_134_2, ↓mi_134_3, ↓mi_134_4, ↓mi_134_6, ↓mi_134_6_t0, ↓mi_134_6_t1, ↓mi_134_12, ↓mi_134_14, ↓mi_134_15, h]
theorem wr_134b {x y a b : Int32} (h : ms_G 2 0 [.ref (ms_ad 3 0), .int x, .int y, .int a, .int b] [] (ms_Z q false I J) = some (.inr 1, ms_Z (q.1, q.2 + 1) true I J)) : ms_G 134 0 [.ref (ms_ad 3 0), .int x, .int y, .int a, .int b, .null] [] (ms_Z q false I J) = some (.inl (some (.int (nI 2))), ms_Z (q.1, q.2 + 1) true I J) := by
  simp (disch := omega) only [↓mi_134_0, ↓mi_134_1, ↓mi_134_2, ↓mi_134_3, ↓mi_134_4, ↓mi_134_6, ↓mi_134_6_t0, ↓mi_134_6_t1, ↓mi_134_16, ↓mi_134_18, ↓mi_134_19, h]
theorem wr_134v {x y a b : Int32} {w' : Bool} {I' : ms_i} {J' : ms_j} (h : ms_G 2 0 [.ref (ms_ad 3 0), .int x, .int y, .int a, .int b] [] (ms_Z q false I J) = some (.inl none, ms_Z q w' I' J')) : ms_G 134 0 [.ref (ms_ad 3 0), .int x, .int y, .int a, .int b, .null] [] (ms_Z q false I J) = some (.inl (some (.int (nI 0))), ms_Z q w' I' J') := by
  simp (disch := omega) only [↓mi_134_0, ↓mi_134_1, ↓mi_134_2, ↓mi_134_3, ↓mi_134_4, ↓mi_134_6, ↓mi_134_6_t0, ↓mi_134_6_t1, ↓mi_134_9, ↓mi_134_20, ↓mi_134_21, cond_true, mz_clv, mz_cln, Bool.false_or, Bool.true_or, Bool.or_false, Bool.or_true, if_true, if_false, ite_self, h]
theorem wr_135a {x y a : Int32} (h : ms_G 3 0 [.ref (ms_ad 3 0), .int x, .int y, .int a] [] (ms_Z q false I J) = some (.inr 0, ms_Z (q.1, q.2 + 1) true I J)) : ms_G 135 0 [.ref (ms_ad 3 0), .int x, .int y, .int a, .null] [] (ms_Z q false I J) = some (.inl (some (.int (nI 1))), ms_Z (q.1, q.2 + 1) true I J) := by
  simp (disch := omega) only [↓mi_135_0, ↓mi_135_1, ↓mi_135_2, ↓mi_135_3, ↓mi_135_4, ↓mi_135_4_t0, ↓mi_135_4_t1, ↓mi_135_10, ↓mi_135_12, ↓mi_135_13, h]
theorem wr_135b {x y a : Int32} (h : ms_G 3 0 [.ref (ms_ad 3 0), .int x, .int y, .int a] [] (ms_Z q false I J) = some (.inr 1, ms_Z (q.1, q.2 + 1) true I J)) : ms_G 135 0 [.ref (ms_ad 3 0), .int x, .int y, .int a, .null] [] (ms_Z q false I J) = some (.inl (some (.int (nI 2))), ms_Z (q.1, q.2 + 1) true I J) := by
  simp (disch := omega) only [↓mi_135_0, ↓mi_135_1, ↓mi_135_2, ↓mi_135_3, ↓mi_135_4, ↓mi_135_4_t0, ↓mi_135_4_t1, ↓mi_135_14, ↓mi_135_16, ↓mi_135_17, h]
theorem wr_135v {x y a : Int32} {w' : Bool} {I' : ms_i} {J' : ms_j} (h : ms_G 3 0 [.ref (ms_ad 3 0), .int x, .int y, .int a] [] (ms_Z q false I J) = some (.inl none, ms_Z q w' I' J')) : ms_G 135 0 [.ref (ms_ad 3 0), .int x, .int y, .int a, .null] [] (ms_Z q false I J) = some (.inl (some (.int (nI 0))), ms_Z q w' I' J') := by
  simp (disch := omega) only [↓mi_135_0, ↓mi_135_1, ↓mi_135_2, ↓mi_135_3, ↓mi_135_4, ↓mi_135_4_t0, ↓mi_135_4_t1, ↓mi_135_7, ↓mi_135_18, ↓mi_135_19, cond_true, mz_clv, mz_cln, Bool.false_or, Bool.true_or, Bool.or_false, Bool.or_true, if_true, if_false, ite_self, h]
theorem lo_secret {f : Nat → Int32} {x y a b : Int32} (h : ms_iv f I J) : ∃ (q' : Nat × Nat) (k : Nat) (w1 w2 : Bool) (I1 : ms_i) (J1 : ms_j) (I2 : ms_i) (J2 : ms_j), ms_G 134 0 [.ref (ms_ad 3 0), .int x, .int y, .int a, .int b, .null] [] (ms_Z q false I J) = some (.inl (some (.int (nI k))), ms_Z q' w1 I1 J1) ∧ ms_G 38 0 [.ref (ms_ad 40 0), .int x, .int y, .int a, .int b] [] (ms_Z q' false I1 J1) = some (.inl none, ms_Z q' w2 I2 J2) ∧ I2 40 0 0 = nI k ∧ q'.1 = q.1 ∧ q'.2 ≤ q.2 + 1 ∧ I1 0 0 = f ∧ ms_iv f I2 J2 := by
  have hiv := h
  obtain ⟨h0, n, t, g, nm, hd, S, T, X, m, Q, h⟩ := h
  have hinv := h
  obtain ⟨hA, hSm, hH, hP, hX, hI, hN, hK, hF, hR, hM, hZ⟩ := h
  obtain ⟨a0, a1, a2, b1, b2, b3, b4, b5, n8, tn, g5, t2⟩ := hA
  have d1 := fun q' J' => sp_19c (σ := ms_Z q' false I J') x (m := 7) (by decide)
  have d2 := fun q' J' => sp_19c (σ := ms_Z q' false I J') y (m := 2) (by decide)
  by_cases hb : (ms_in x 8 && ms_in y 3) = false
  · have r1 : ms_G 2 0 [.ref (ms_ad 3 0), .int x, .int y, .int a, .int b] [] (ms_Z q false I J) = some (.inr 0, ms_Z (q.1, q.2 + 1) true I J) := by
      cases hx : ms_in x 8 with
      | false =>
        by_cases hn : x < nI 0
        · simp (disch := omega) only [↓mi_2_0, ↓mi_2_1, ↓mi_2_19, if_pos hn]
        · have hl := (in_bad (by decide) hx).resolve_left hn
          simp (disch := omega) only [↓mi_2_0, ↓mi_2_1, ↓mi_2_4, ↓mi_2_5, ↓mi_2_7, ↓mi_2_19, if_neg hn, if_pos hl]
      | true =>
        rw [hx, Bool.true_and] at hb
        obtain ⟨u, hu, rfl⟩ := in_nat (by decide) hx
        by_cases hn : y < nI 0
        · simp (disch := omega) only [↓mi_2_0, ↓mi_2_1, ↓mi_2_4, ↓mi_2_5, ↓mi_2_7, ↓mi_2_10, ↓mi_2_11, ↓mi_2_19, na_lt, na_le, if_neg, if_pos hn]
        · have hl := in_nlt (by decide) hb hn
          simp (disch := omega) only [↓mi_2_0, ↓mi_2_1, ↓mi_2_4, ↓mi_2_5, ↓mi_2_7, ↓mi_2_10, ↓mi_2_11, ↓mi_2_14, ↓mi_2_15, ↓mi_2_16, ↓mi_2_19, na_lt, na_le, if_neg, if_neg hn, if_neg hl]
    have r2 : ms_G 38 0 [.ref (ms_ad 40 0), .int x, .int y, .int a, .int b] [] (ms_Z (q.1, q.2 + 1) false I J) = some (.inl none, ms_Z (q.1, q.2 + 1) true (ms_u I 40 0 (upd (I 40 0) 0 (nI 1))) J) := by
      have e1 := d1 (q.1, q.2 + 1) J
      have e2 := d2 (q.1, q.2 + 1) J
      cases hx : ms_in x 8 with
      | false =>
        rw [hx] at e1
        simp (disch := omega) only [↓mi_38_0, ↓mi_38_1, ↓mi_38_2, ↓mi_38_3, ↓mi_38_5, ↓mi_38_8, ↓mi_38_24, ↓mi_38_25, ↓mi_38_28, ↓mi_38_29, ↓mi_38_32, ↓mi_38_64, ↓mi_38_65, ↓mi_38_68, ↓mi_38_87, cond_true, mz_clv, mz_cln, Bool.false_or, Bool.true_or, Bool.or_false, Bool.or_true, if_true, if_false, ite_self, ms_u_s, ms_u_r, ms_u_i, ms_u_u, pk_us, e1, if_pos b_f, na_eq, if_neg]
      | true =>
        rw [hx, Bool.true_and] at hb
        rw [hx] at e1
        rw [hb] at e2
        simp (disch := omega) only [↓mi_38_0, ↓mi_38_1, ↓mi_38_2, ↓mi_38_3, ↓mi_38_5, ↓mi_38_8, ↓mi_38_11, ↓mi_38_12, ↓mi_38_13, ↓mi_38_14, ↓mi_38_17, ↓mi_38_24, ↓mi_38_25, ↓mi_38_28, ↓mi_38_29, ↓mi_38_32, ↓mi_38_64, ↓mi_38_65, ↓mi_38_68, ↓mi_38_87, cond_true, mz_clv, mz_cln, Bool.false_or, Bool.true_or, Bool.or_false, Bool.or_true, if_true, if_false, ite_self, ms_u_s, ms_u_r, ms_u_i, ms_u_u, pk_us, e1, e2, if_neg b_t, if_pos b_f, na_eq, if_neg]
    exact ⟨(q.1, q.2 + 1), 1, true, true, I, J, _, J, wr_134a r1, r2, by rw [ms_u_s, pk_us], rfl, Nat.le_refl _, hiv.1, iv_code hiv _⟩
  · have hb2 : (ms_in x 8 && ms_in y 3) = true := by
      cases h : (ms_in x 8 && ms_in y 3) with
      | true => rfl
      | false => exact absurd h hb
    rw [Bool.and_eq_true] at hb2
    obtain ⟨hx, hy⟩ := hb2
    have hx' := hx
    have hy' := hy
    obtain ⟨u, hu, rfl⟩ := in_nat (by decide) hx
    obtain ⟨i, hi, rfl⟩ := in_nat (by decide) hy
    obtain ⟨p1, p2, p3, p4, p5, p6, p7, p8, p9, p10, p11⟩ := hP u hu
    have o1 := sp_117 (q := q) (I := I) (J := J) g5 a2
    -- the model, up to where it looks at the round
    have ms : ∀ q' (J' : ms_j) (I0 : ms_i), I0 = ms_u I 40 0 (upd (I 40 0) 0 (nI 0)) → ms_G 38 0 [.ref (ms_ad 40 0), .int (nI u), .int (nI i), .int a, .int b] [] (ms_Z q' false I J') = ms_G 38 35 [.ref (ms_ad 40 0), .int (nI u), .int (nI i), .int a, .int b] [] (ms_Z q' true I0 J') := by
      intro q' J' I0 e0
      have e1 := d1 q' J'
      have e2 := d2 q' J'
      rw [hx'] at e1
      rw [hy'] at e2
      have z : I0 40 0 0 = nI 0 := by rw [e0, ms_u_s, pk_us]
      simp (disch := omega) only [↓mi_38_0, ↓mi_38_1, ↓mi_38_2, ↓mi_38_3, ↓mi_38_5, ↓mi_38_8, ↓mi_38_11, ↓mi_38_12, ↓mi_38_13, ↓mi_38_14, ↓mi_38_17, ↓mi_38_20, ↓mi_38_21, ↓mi_38_24, ↓mi_38_25, cond_true, mz_clv, mz_cln, Bool.false_or, Bool.true_or, Bool.or_false, Bool.or_true, if_true, if_false, ite_self, e1, e2, if_neg b_t, ← e0]
      simp (disch := omega) only [↓mi_38_28, ↓mi_38_29, ↓mi_38_32, cond_true, mz_clv, mz_cln, Bool.false_or, Bool.true_or, Bool.or_false, Bool.or_true, if_true, if_false, ite_self, z, na_eq, if_pos]
    obtain ⟨I0, e0⟩ : ∃ I0, I0 = ms_u I 40 0 (upd (I 40 0) 0 (nI 0)) := ⟨_, rfl⟩
    have z40 : ∀ k, k ≠ 0 → I0 40 0 k = I 40 0 k := fun k hk => by rw [e0, ms_u_s, pk_un hk]
    have z0 : I0 40 0 0 = nI 0 := by rw [e0, ms_u_s, pk_us]
    have zr : ∀ r v, r ≠ 40 → I0 r v = I r v := fun r v hr => by rw [e0, ms_u_r _ _ _ _ hr]
    have hi0 : ∀ J', ms_iv f I J' → ms_iv f I0 J' := fun J' h => by rw [e0]; exact iv_code h _
    have om := fun q' J' => sp_36 (q := q') (I := I0) (J := J') g5 (by rw [z40 3 (by decide)]; exact b3)
    have op := fun q' J' => sp_37 (q := q') (I := I0) (J := J') (nI u) (show n ≤ 5000 by omega) (by rw [z40 1 (by decide)]; exact b1)
    have z43 : I0 43 0 u = nI (S u) := by rw [zr 43 0 (by decide)]; exact p2
    by_cases hr : g < 4 ∧ 0 < S u
    · have un : u < n := by
        rcases Nat.lt_or_ge u n with z | z
        · exact z
        · have := p8 z
          omega
      rw [decide_eq_true hr.1] at o1
      have om1 := om (q.1, q.2 + 1) J
      have op1 := op (q.1, q.2 + 1) J
      rw [decide_eq_true hr.1] at om1
      rw [in_nI (by omega), decide_eq_true un] at op1
      have r1 : ms_G 2 0 [.ref (ms_ad 3 0), .int (nI u), .int (nI i), .int a, .int b] [] (ms_Z q false I J) = some (.inr 1, ms_Z (q.1, q.2 + 1) true I J) := by
        simp (disch := omega) only [↓mi_2_0, ↓mi_2_1, ↓mi_2_4, ↓mi_2_5, ↓mi_2_7, ↓mi_2_10, ↓mi_2_11, ↓mi_2_14, ↓mi_2_15, ↓mi_2_16, ↓mi_2_27, ↓mi_2_28, ↓mi_2_31, ↓mi_2_34, ↓mi_2_37, ↓mi_2_38, ↓mi_2_41, ↓mi_2_42, ↓mi_2_43, ↓mi_2_46, ↓mi_2_49, cond_true, mz_clv, mz_cln, Bool.false_or, Bool.true_or, Bool.or_false, Bool.or_true, if_true, if_false, ite_self, o2_30, er_30, na_lt, na_le, if_neg, if_pos, o1, if_neg b_t, p1]
      have r2 : ms_G 38 0 [.ref (ms_ad 40 0), .int (nI u), .int (nI i), .int a, .int b] [] (ms_Z (q.1, q.2 + 1) false I J) = some (.inl none, ms_Z (q.1, q.2 + 1) true (ms_u I0 40 0 (upd (I0 40 0) 0 (nI 2))) J) := by
        rw [ms (q.1, q.2 + 1) J I0 e0]
        simp (disch := omega) only [↓mi_38_35, ↓mi_38_36, ↓mi_38_39, ↓mi_38_42, ↓mi_38_43, ↓mi_38_44, ↓mi_38_47, ↓mi_38_50, ↓mi_38_51, ↓mi_38_54, ↓mi_38_55, ↓mi_38_56, ↓mi_38_59, ↓mi_38_60, ↓mi_38_61, ↓mi_38_64, ↓mi_38_65, ↓mi_38_68, ↓mi_38_87, cond_true, mz_clv, mz_cln, Bool.false_or, Bool.true_or, Bool.or_false, Bool.or_true, if_true, if_false, ite_self, ms_u_s, ms_u_r, ms_u_i, ms_u_u, o0_43, pk_us, om1, op1, if_neg b_t, z43, na_le, na_eq, if_neg]
      refine ⟨(q.1, q.2 + 1), 2, true, true, I, J, _, J, wr_134b r1, r2, by rw [ms_u_s, pk_us], rfl, Nat.le_refl _, hiv.1, iv_code (hi0 J hiv) _⟩
    · obtain ⟨v, ev⟩ : ∃ v, v = ms_num a b := ⟨_, rfl⟩
      have lv : v < 2305843009213693951 := by rw [ev]; exact ms_num_lt a b
      obtain ⟨J1, ej⟩ : ∃ J1, J1 = ms_u J 32 u (vp_updL (J 32 u) i (lN v)) := ⟨_, rfl⟩
      have r1 : ms_G 2 0 [.ref (ms_ad 3 0), .int (nI u), .int (nI i), .int a, .int b] [] (ms_Z q false I J) = some (.inl none, ms_Z q true I J1) := by
        by_cases hg : g < 4
        · rw [decide_eq_true hg] at o1
          simp (disch := omega) only [↓mi_2_0, ↓mi_2_1, ↓mi_2_4, ↓mi_2_5, ↓mi_2_7, ↓mi_2_10, ↓mi_2_11, ↓mi_2_14, ↓mi_2_15, ↓mi_2_16, ↓mi_2_27, ↓mi_2_28, ↓mi_2_31, ↓mi_2_34, ↓mi_2_37, ↓mi_2_38, ↓mi_2_41, ↓mi_2_42, ↓mi_2_43, ↓mi_2_46, ↓mi_2_57, ↓mi_2_58, ↓mi_2_61, ↓mi_2_62, ↓mi_2_63, ↓mi_2_66, ↓mi_2_67, ↓mi_2_68, ↓mi_2_70, ↓mi_2_73, ↓mi_2_74, cond_true, mz_clv, mz_cln, Bool.false_or, Bool.true_or, Bool.or_false, Bool.or_true, if_true, if_false, ite_self, o2_30, o1_32, er_30, na_lt, na_le, if_neg, if_pos, o1, if_neg b_t, p1, sp_84, ← ev, ← ej]
        · rw [decide_eq_false hg] at o1
          simp (disch := omega) only [↓mi_2_0, ↓mi_2_1, ↓mi_2_4, ↓mi_2_5, ↓mi_2_7, ↓mi_2_10, ↓mi_2_11, ↓mi_2_14, ↓mi_2_15, ↓mi_2_16, ↓mi_2_27, ↓mi_2_28, ↓mi_2_31, ↓mi_2_34, ↓mi_2_57, ↓mi_2_58, ↓mi_2_61, ↓mi_2_62, ↓mi_2_63, ↓mi_2_66, ↓mi_2_67, ↓mi_2_68, ↓mi_2_70, ↓mi_2_73, ↓mi_2_74, cond_true, mz_clv, mz_cln, Bool.false_or, Bool.true_or, Bool.or_false, Bool.or_true, if_true, if_false, ite_self, o2_30, o1_32, er_30, na_lt, na_le, if_neg, if_pos, o1, if_pos b_f, sp_84, ← ev, ← ej]
      obtain ⟨J2, ej2⟩ : ∃ J2, J2 = ms_u J1 41 0 (vp_updL (J1 41 0) (3 * u + i) (lN v)) := ⟨_, rfl⟩
      have om1 := om q J1
      have op1 := op q J1
      have r2 : ms_G 38 0 [.ref (ms_ad 40 0), .int (nI u), .int (nI i), .int a, .int b] [] (ms_Z q false I J1) = some (.inl none, ms_Z q true I0 J2) := by
        rw [ms q J1 I0 e0]
        have tail : ms_G 38 64 [.ref (ms_ad 40 0), .int (nI u), .int (nI i), .int a, .int b] [] (ms_Z q true I0 J1) = some (.inl none, ms_Z q true I0 J2) := by
          simp (disch := omega) only [↓mi_38_64, ↓mi_38_65, ↓mi_38_68, ↓mi_38_71, ↓mi_38_72, ↓mi_38_75, ↓mi_38_76, ↓mi_38_77, ↓mi_38_78, ↓mi_38_79, ↓mi_38_80, ↓mi_38_81, ↓mi_38_83, ↓mi_38_86, ↓mi_38_87, cond_true, mz_clv, mz_cln, Bool.false_or, Bool.true_or, Bool.or_false, Bool.or_true, if_true, if_false, ite_self, o1_41, z0, na_eq, if_pos, pk_mul, na_up, sp_23, ← ev, ← ej2]
        by_cases hg : g < 4
        · rw [decide_eq_true hg] at om1
          by_cases un : u < n
          · rw [in_nI (by omega), decide_eq_true un] at op1
            simp (disch := omega) only [↓mi_38_35, ↓mi_38_36, ↓mi_38_39, ↓mi_38_42, ↓mi_38_43, ↓mi_38_44, ↓mi_38_47, ↓mi_38_50, ↓mi_38_51, ↓mi_38_54, ↓mi_38_55, ↓mi_38_56, cond_true, mz_clv, mz_cln, Bool.false_or, Bool.true_or, Bool.or_false, Bool.or_true, if_true, if_false, ite_self, o0_43, om1, op1, if_neg b_t, z43, na_le, if_pos]
            exact tail
          · rw [in_nI (by omega), decide_eq_false un] at op1
            simp (disch := omega) only [↓mi_38_35, ↓mi_38_36, ↓mi_38_39, ↓mi_38_42, ↓mi_38_43, ↓mi_38_44, ↓mi_38_47, cond_true, mz_clv, mz_cln, Bool.false_or, Bool.true_or, Bool.or_false, Bool.or_true, if_true, if_false, ite_self, om1, op1, if_neg b_t, if_pos b_f]
            exact tail
        · rw [decide_eq_false hg] at om1
          simp (disch := omega) only [↓mi_38_35, ↓mi_38_36, ↓mi_38_39, cond_true, mz_clv, mz_cln, Bool.false_or, Bool.true_or, Bool.or_false, Bool.or_true, if_true, if_false, ite_self, om1, if_pos b_f]
          exact tail
      refine ⟨q, 0, true, true, I, J1, I0, J2, wr_134v r1, r2, z0, rfl, by omega, h0, by rw [zr 0 0 (by decide)]; exact h0, n, t, g, nm, hd, S, T, (fun u' k' => if u' = u ∧ k' = i then v else X u' k'), m, Q, ?_⟩
      have hinv0 : ms_inv n t g nm hd S T X m Q I0 J := iv_keep hinv (by rw [e0]; exact fr_u rfl) z40 fr_rf (fun j a b => by rw [zr 6 0 (by decide)]; exact hZ j a b)
      obtain ⟨gA, gS, gH, gP, gX, gI, gN, gK, gF, gR, gM, gZ⟩ := hinv0
      refine ⟨gA, gS, gH, gP, ?_, gI, gN, gK, ?_, gR, gM, gZ⟩
      · intro u' hu' k' hk'
        have e32 : J2 32 u' k' = if u' = u ∧ k' = i then lN v else J 32 u' k' := by
          rw [ej2, ms_u_r _ _ _ _ (by decide), ej]
          by_cases e : u' = u
          · subst e
            rw [ms_u_s]
            by_cases e2 : k' = i
            · rw [if_pos ⟨rfl, e2⟩, e2, pk_uLs]
            · rw [if_neg (fun z => e2 z.2), pk_uLn e2]
          · rw [ms_u_i _ _ _ _ e, if_neg (fun z => e z.1)]
        have e41 : J2 41 0 (3 * u' + k') = if u' = u ∧ k' = i then lN v else J 41 0 (3 * u' + k') := by
          rw [ej2, ms_u_s]
          by_cases e : u' = u ∧ k' = i
          · rw [if_pos e, e.1, e.2, pk_uLs]
          · rw [if_neg e, pk_uLn (by omega), ej, ms_u_r _ _ _ _ (by decide)]
        have x := gX u' hu' k' hk'
        show J2 32 u' k' = lN (if u' = u ∧ k' = i then v else X u' k') ∧ J2 41 0 (3 * u' + k') = lN (if u' = u ∧ k' = i then v else X u' k') ∧ (if u' = u ∧ k' = i then v else X u' k') < 2305843009213693951
        rw [e32, e41]
        by_cases e : u' = u ∧ k' = i
        · rw [if_pos e, if_pos e, if_pos e]
          exact ⟨rfl, rfl, lv⟩
        · rw [if_neg e, if_neg e, if_neg e]
          exact x
      · intro hg u' hu' hs v' hv'
        have ne : u' ≠ u := fun z => hr ⟨hg, by rw [← z]; omega⟩
        have x := gF hg u' hu' hs v' hv'
        show J2 34 u' v' = lN (ms_sh (if u' = u ∧ 2 = i then v else X u' 2) (ms_cf (if u' = u ∧ 2 = i then v else X u' 2) 1 u') (v' + 1) t) ∧ J2 35 u' v' = lN (ms_sh (if u' = u ∧ 0 = i then v else X u' 0) (ms_cf (if u' = u ∧ 2 = i then v else X u' 2) 0 u') (v' + 1) t)
        rw [if_neg (fun z => ne z.1), if_neg (fun z => ne z.1), ej2, ms_u_r _ _ _ _ (by decide), ms_u_r _ _ _ _ (by decide), ej, ms_u_r _ _ _ _ (by decide), ms_u_r _ _ _ _ (by decide)]
        exact x
theorem lo_input {f : Nat → Int32} {x y a : Int32} (h : ms_iv f I J) : ∃ (q' : Nat × Nat) (k : Nat) (w1 w2 : Bool) (I1 : ms_i) (J1 : ms_j) (I2 : ms_i) (J2 : ms_j), ms_G 135 0 [.ref (ms_ad 3 0), .int x, .int y, .int a, .null] [] (ms_Z q false I J) = some (.inl (some (.int (nI k))), ms_Z q' w1 I1 J1) ∧ ms_G 39 0 [.ref (ms_ad 40 0), .int x, .int y, .int a] [] (ms_Z q' false I1 J1) = some (.inl none, ms_Z q' w2 I2 J2) ∧ I2 40 0 0 = nI k ∧ q'.1 = q.1 ∧ q'.2 ≤ q.2 + 1 ∧ I1 0 0 = f ∧ ms_iv f I2 J2 := by
  have hiv := h
  obtain ⟨h0, n, t, g, nm, hd, S, T, X, m, Q, h⟩ := h
  have hinv := h
  obtain ⟨hA, hSm, hH, hP, hX, hI, hN, hK, hF, hR, hM, hZ⟩ := h
  obtain ⟨a0, a1, a2, b1, b2, b3, b4, b5, n8, tn, g5, t2⟩ := hA
  have d1 := fun q' (I' : ms_i) => sp_19c (σ := ms_Z q' false I' J) x (m := 7) (by decide)
  have d2 := fun q' (I' : ms_i) => sp_19c (σ := ms_Z q' false I' J) y (m := 3) (by decide)
  by_cases hb : (ms_in x 8 && ms_in y 4) = false
  · have r1 : ms_G 3 0 [.ref (ms_ad 3 0), .int x, .int y, .int a] [] (ms_Z q false I J) = some (.inr 0, ms_Z (q.1, q.2 + 1) true I J) := by
      cases hx : ms_in x 8 with
      | false =>
        by_cases hn : x < nI 0
        · simp (disch := omega) only [↓mi_3_0, ↓mi_3_1, ↓mi_3_19, if_pos hn]
        · have hl := (in_bad (by decide) hx).resolve_left hn
          simp (disch := omega) only [↓mi_3_0, ↓mi_3_1, ↓mi_3_4, ↓mi_3_5, ↓mi_3_7, ↓mi_3_19, if_neg hn, if_pos hl]
      | true =>
        rw [hx, Bool.true_and] at hb
        obtain ⟨u, hu, rfl⟩ := in_nat (by decide) hx
        by_cases hn : y < nI 0
        · simp (disch := omega) only [↓mi_3_0, ↓mi_3_1, ↓mi_3_4, ↓mi_3_5, ↓mi_3_7, ↓mi_3_10, ↓mi_3_11, ↓mi_3_19, na_lt, na_le, if_neg, if_pos hn]
        · have hl := in_nlt (by decide) hb hn
          simp (disch := omega) only [↓mi_3_0, ↓mi_3_1, ↓mi_3_4, ↓mi_3_5, ↓mi_3_7, ↓mi_3_10, ↓mi_3_11, ↓mi_3_14, ↓mi_3_15, ↓mi_3_16, ↓mi_3_19, na_lt, na_le, if_neg, if_neg hn, if_neg hl]
    have r2 : ms_G 39 0 [.ref (ms_ad 40 0), .int x, .int y, .int a] [] (ms_Z (q.1, q.2 + 1) false I J) = some (.inl none, ms_Z (q.1, q.2 + 1) true (ms_u I 40 0 (upd (I 40 0) 0 (nI 1))) J) := by
      have e1 := d1 (q.1, q.2 + 1) I
      have e2 := d2 (q.1, q.2 + 1) I
      cases hx : ms_in x 8 with
      | false =>
        rw [hx] at e1
        simp (disch := omega) only [↓mi_39_0, ↓mi_39_1, ↓mi_39_2, ↓mi_39_3, ↓mi_39_5, ↓mi_39_8, ↓mi_39_24, ↓mi_39_25, ↓mi_39_28, ↓mi_39_29, ↓mi_39_32, ↓mi_39_65, ↓mi_39_66, ↓mi_39_69, ↓mi_39_83, cond_true, mz_clv, mz_cln, Bool.false_or, Bool.true_or, Bool.or_false, Bool.or_true, if_true, if_false, ite_self, ms_u_s, ms_u_r, ms_u_i, ms_u_u, pk_us, e1, if_pos b_f, na_eq, if_neg]
      | true =>
        rw [hx, Bool.true_and] at hb
        rw [hx] at e1
        rw [hb] at e2
        simp (disch := omega) only [↓mi_39_0, ↓mi_39_1, ↓mi_39_2, ↓mi_39_3, ↓mi_39_5, ↓mi_39_8, ↓mi_39_11, ↓mi_39_12, ↓mi_39_13, ↓mi_39_14, ↓mi_39_17, ↓mi_39_24, ↓mi_39_25, ↓mi_39_28, ↓mi_39_29, ↓mi_39_32, ↓mi_39_65, ↓mi_39_66, ↓mi_39_69, ↓mi_39_83, cond_true, mz_clv, mz_cln, Bool.false_or, Bool.true_or, Bool.or_false, Bool.or_true, if_true, if_false, ite_self, ms_u_s, ms_u_r, ms_u_i, ms_u_u, pk_us, e1, e2, if_neg b_t, if_pos b_f, na_eq, if_neg]
    exact ⟨(q.1, q.2 + 1), 1, true, true, I, J, _, J, wr_135a r1, r2, by rw [ms_u_s, pk_us], rfl, Nat.le_refl _, hiv.1, iv_code hiv _⟩
  · have hb2 : (ms_in x 8 && ms_in y 4) = true := by
      cases h : (ms_in x 8 && ms_in y 4) with
      | true => rfl
      | false => exact absurd h hb
    rw [Bool.and_eq_true] at hb2
    obtain ⟨hx, hy⟩ := hb2
    have hx' := hx
    have hy' := hy
    obtain ⟨u, hu, rfl⟩ := in_nat (by decide) hx
    obtain ⟨i, hi, rfl⟩ := in_nat (by decide) hy
    obtain ⟨p1, p2, p3, p4, p5, p6, p7, p8, p9, p10, p11⟩ := hP u hu
    have o1 := sp_117 (q := q) (I := I) (J := J) g5 a2
    have ms : ∀ q' (I' : ms_i) (I0 : ms_i), I0 = ms_u I' 40 0 (upd (I' 40 0) 0 (nI 0)) → ms_G 39 0 [.ref (ms_ad 40 0), .int (nI u), .int (nI i), .int a] [] (ms_Z q' false I' J) = ms_G 39 35 [.ref (ms_ad 40 0), .int (nI u), .int (nI i), .int a] [] (ms_Z q' true I0 J) := by
      intro q' I' I0 e0
      have e1 := d1 q' I'
      have e2 := d2 q' I'
      rw [hx'] at e1
      rw [hy'] at e2
      have z : I0 40 0 0 = nI 0 := by rw [e0, ms_u_s, pk_us]
      simp (disch := omega) only [↓mi_39_0, ↓mi_39_1, ↓mi_39_2, ↓mi_39_3, ↓mi_39_5, ↓mi_39_8, ↓mi_39_11, ↓mi_39_12, ↓mi_39_13, ↓mi_39_14, ↓mi_39_17, ↓mi_39_20, ↓mi_39_21, ↓mi_39_24, ↓mi_39_25, cond_true, mz_clv, mz_cln, Bool.false_or, Bool.true_or, Bool.or_false, Bool.or_true, if_true, if_false, ite_self, e1, e2, if_neg b_t, ← e0]
      simp (disch := omega) only [↓mi_39_28, ↓mi_39_29, ↓mi_39_32, cond_true, mz_clv, mz_cln, Bool.false_or, Bool.true_or, Bool.or_false, Bool.or_true, if_true, if_false, ite_self, z, na_eq, if_pos]
    by_cases hr : g < 4 ∧ 2 < S u
    · have un : u < n := by
        rcases Nat.lt_or_ge u n with z | z
        · exact z
        · have := p8 z
          omega
      obtain ⟨I0, e0⟩ : ∃ I0, I0 = ms_u I 40 0 (upd (I 40 0) 0 (nI 0)) := ⟨_, rfl⟩
      have z40 : ∀ k, k ≠ 0 → I0 40 0 k = I 40 0 k := fun k hk => by rw [e0, ms_u_s, pk_un hk]
      have zr : ∀ r v, r ≠ 40 → I0 r v = I r v := fun r v hr => by rw [e0, ms_u_r _ _ _ _ hr]
      have z43 : I0 43 0 u = nI (S u) := by rw [zr 43 0 (by decide)]; exact p2
      have om1 := sp_36 (q := (q.1, q.2 + 1)) (I := I0) (J := J) g5 (by rw [z40 3 (by decide)]; exact b3)
      have op1 := sp_37 (q := (q.1, q.2 + 1)) (I := I0) (J := J) (nI u) (show n ≤ 5000 by omega) (by rw [z40 1 (by decide)]; exact b1)
      rw [decide_eq_true hr.1] at o1 om1
      rw [in_nI (by omega), decide_eq_true un] at op1
      have r1 : ms_G 3 0 [.ref (ms_ad 3 0), .int (nI u), .int (nI i), .int a] [] (ms_Z q false I J) = some (.inr 1, ms_Z (q.1, q.2 + 1) true I J) := by
        simp (disch := omega) only [↓mi_3_0, ↓mi_3_1, ↓mi_3_4, ↓mi_3_5, ↓mi_3_7, ↓mi_3_10, ↓mi_3_11, ↓mi_3_14, ↓mi_3_15, ↓mi_3_16, ↓mi_3_27, ↓mi_3_28, ↓mi_3_31, ↓mi_3_34, ↓mi_3_37, ↓mi_3_38, ↓mi_3_41, ↓mi_3_42, ↓mi_3_43, ↓mi_3_46, ↓mi_3_47, ↓mi_3_50, cond_true, mz_clv, mz_cln, Bool.false_or, Bool.true_or, Bool.or_false, Bool.or_true, if_true, if_false, ite_self, o2_30, er_30, na_lt, na_le, if_neg, if_pos, o1, if_neg b_t, p1]
      have r2 : ms_G 39 0 [.ref (ms_ad 40 0), .int (nI u), .int (nI i), .int a] [] (ms_Z (q.1, q.2 + 1) false I J) = some (.inl none, ms_Z (q.1, q.2 + 1) true (ms_u I0 40 0 (upd (I0 40 0) 0 (nI 2))) J) := by
        rw [ms (q.1, q.2 + 1) I I0 e0]
        simp (disch := omega) only [↓mi_39_35, ↓mi_39_36, ↓mi_39_39, ↓mi_39_42, ↓mi_39_43, ↓mi_39_44, ↓mi_39_47, ↓mi_39_50, ↓mi_39_51, ↓mi_39_54, ↓mi_39_55, ↓mi_39_56, ↓mi_39_57, ↓mi_39_60, ↓mi_39_61, ↓mi_39_62, ↓mi_39_65, ↓mi_39_66, ↓mi_39_69, ↓mi_39_83, cond_true, mz_clv, mz_cln, Bool.false_or, Bool.true_or, Bool.or_false, Bool.or_true, if_true, if_false, ite_self, ms_u_s, ms_u_r, ms_u_i, ms_u_u, o0_43, pk_us, om1, op1, if_neg b_t, z43, na_le, na_eq, if_neg]
      refine ⟨(q.1, q.2 + 1), 2, true, true, I, J, _, J, wr_135b r1, r2, by rw [ms_u_s, pk_us], rfl, Nat.le_refl _, hiv.1, ?_⟩
      have := iv_code (iv_code hiv (nI 0)) (nI 2)
      rw [← e0] at this
      exact this
    · obtain ⟨I1, e1⟩ : ∃ I1, I1 = ms_u I 33 u (upd (I 33 u) i a) := ⟨_, rfl⟩
      have g1 : ∀ r v, r ≠ 33 → I1 r v = I r v := fun r v z => by rw [e1, ms_u_r _ _ _ _ z]
      have r1 : ms_G 3 0 [.ref (ms_ad 3 0), .int (nI u), .int (nI i), .int a] [] (ms_Z q false I J) = some (.inl none, ms_Z q true I1 J) := by
        by_cases hg : g < 4
        · rw [decide_eq_true hg] at o1
          simp (disch := omega) only [↓mi_3_0, ↓mi_3_1, ↓mi_3_4, ↓mi_3_5, ↓mi_3_7, ↓mi_3_10, ↓mi_3_11, ↓mi_3_14, ↓mi_3_15, ↓mi_3_16, ↓mi_3_27, ↓mi_3_28, ↓mi_3_31, ↓mi_3_34, ↓mi_3_37, ↓mi_3_38, ↓mi_3_41, ↓mi_3_42, ↓mi_3_43, ↓mi_3_46, ↓mi_3_47, ↓mi_3_58, ↓mi_3_59, ↓mi_3_62, ↓mi_3_63, ↓mi_3_64, ↓mi_3_67, ↓mi_3_68, ↓mi_3_69, ↓mi_3_70, cond_true, mz_clv, mz_cln, Bool.false_or, Bool.true_or, Bool.or_false, Bool.or_true, if_true, if_false, ite_self, o2_30, o0_33, er_30, na_lt, na_le, if_neg, if_pos, o1, if_neg b_t, p1, ← e1]
        · rw [decide_eq_false hg] at o1
          simp (disch := omega) only [↓mi_3_0, ↓mi_3_1, ↓mi_3_4, ↓mi_3_5, ↓mi_3_7, ↓mi_3_10, ↓mi_3_11, ↓mi_3_14, ↓mi_3_15, ↓mi_3_16, ↓mi_3_27, ↓mi_3_28, ↓mi_3_31, ↓mi_3_34, ↓mi_3_58, ↓mi_3_59, ↓mi_3_62, ↓mi_3_63, ↓mi_3_64, ↓mi_3_67, ↓mi_3_68, ↓mi_3_69, ↓mi_3_70, cond_true, mz_clv, mz_cln, Bool.false_or, Bool.true_or, Bool.or_false, Bool.or_true, if_true, if_false, ite_self, o2_30, o0_33, er_30, na_lt, na_le, if_neg, if_pos, o1, if_pos b_f, ← e1]
      obtain ⟨I0, e0⟩ : ∃ I0, I0 = ms_u I1 40 0 (upd (I1 40 0) 0 (nI 0)) := ⟨_, rfl⟩
      have z40 : ∀ k, k ≠ 0 → I0 40 0 k = I 40 0 k := fun k hk => by rw [e0, ms_u_s, pk_un hk, g1 40 0 (by decide)]
      have z0 : I0 40 0 0 = nI 0 := by rw [e0, ms_u_s, pk_us]
      have zr : ∀ r v, r ≠ 40 → r ≠ 33 → I0 r v = I r v := fun r v hr h2 => by rw [e0, ms_u_r _ _ _ _ hr, g1 r v h2]
      have z43 : I0 43 0 u = nI (S u) := by rw [zr 43 0 (by decide) (by decide)]; exact p2
      have om1 := sp_36 (q := q) (I := I0) (J := J) g5 (by rw [z40 3 (by decide)]; exact b3)
      have op1 := sp_37 (q := q) (I := I0) (J := J) (nI u) (show n ≤ 5000 by omega) (by rw [z40 1 (by decide)]; exact b1)
      obtain ⟨I2, e2⟩ : ∃ I2, I2 = ms_u I0 42 0 (upd (I0 42 0) (4 * u + i) a) := ⟨_, rfl⟩
      have r2 : ms_G 39 0 [.ref (ms_ad 40 0), .int (nI u), .int (nI i), .int a] [] (ms_Z q false I1 J) = some (.inl none, ms_Z q true I2 J) := by
        rw [ms q I1 I0 e0]
        have tail : ms_G 39 65 [.ref (ms_ad 40 0), .int (nI u), .int (nI i), .int a] [] (ms_Z q true I0 J) = some (.inl none, ms_Z q true I2 J) := by
          simp (disch := omega) only [↓mi_39_65, ↓mi_39_66, ↓mi_39_69, ↓mi_39_72, ↓mi_39_73, ↓mi_39_76, ↓mi_39_77, ↓mi_39_78, ↓mi_39_79, ↓mi_39_80, ↓mi_39_81, ↓mi_39_82, ↓mi_39_83, cond_true, mz_clv, mz_cln, Bool.false_or, Bool.true_or, Bool.or_false, Bool.or_true, if_true, if_false, ite_self, o0_42, z0, na_eq, if_pos, pk_mul, na_up, ← e2]
        by_cases hg : g < 4
        · rw [decide_eq_true hg] at om1
          by_cases un : u < n
          · rw [in_nI (by omega), decide_eq_true un] at op1
            simp (disch := omega) only [↓mi_39_35, ↓mi_39_36, ↓mi_39_39, ↓mi_39_42, ↓mi_39_43, ↓mi_39_44, ↓mi_39_47, ↓mi_39_50, ↓mi_39_51, ↓mi_39_54, ↓mi_39_55, ↓mi_39_56, ↓mi_39_57, cond_true, mz_clv, mz_cln, Bool.false_or, Bool.true_or, Bool.or_false, Bool.or_true, if_true, if_false, ite_self, o0_43, om1, op1, if_neg b_t, z43, na_le, if_pos]
            exact tail
          · rw [in_nI (by omega), decide_eq_false un] at op1
            simp (disch := omega) only [↓mi_39_35, ↓mi_39_36, ↓mi_39_39, ↓mi_39_42, ↓mi_39_43, ↓mi_39_44, ↓mi_39_47, cond_true, mz_clv, mz_cln, Bool.false_or, Bool.true_or, Bool.or_false, Bool.or_true, if_true, if_false, ite_self, om1, op1, if_neg b_t, if_pos b_f]
            exact tail
        · rw [decide_eq_false hg] at om1
          simp (disch := omega) only [↓mi_39_35, ↓mi_39_36, ↓mi_39_39, cond_true, mz_clv, mz_cln, Bool.false_or, Bool.true_or, Bool.or_false, Bool.or_true, if_true, if_false, ite_self, om1, if_pos b_f]
          exact tail
      have k2 : ∀ r v, r ≠ 42 → I2 r v = I0 r v := fun r v z => by rw [e2, ms_u_r _ _ _ _ z]
      have kk : ∀ r v, r ≠ 40 → r ≠ 33 → r ≠ 42 → I2 r v = I r v := fun r v x y z => by rw [k2 r v z, zr r v x y]
      refine ⟨q, 0, true, true, I1, J, I2, J, wr_135v r1, r2, by rw [k2 40 0 (by decide)]; exact z0, rfl, by omega, by rw [g1 0 0 (by decide)]; exact h0, by rw [kk 0 0 (by decide) (by decide) (by decide)]; exact h0, n, t, g, nm, hd, S, T, X, m, Q, ?_⟩
      obtain ⟨gA, gS, gH, gP, gX, gI, gN, gK, gF, gR, gM, gZ⟩ := hinv
      have y40 : ∀ k, k ≠ 0 → I2 40 0 k = I 40 0 k := fun k hk => by rw [k2 40 0 (by decide)]; exact z40 k hk
      refine ⟨?_, ?_, ?_, ?_, gX, ?_, ?_, ?_, gF, ?_, ?_, ?_⟩
      · unfold iv_A at gA ⊢
        rw [kk 19 0 (by decide) (by decide) (by decide), y40 1 (by decide), y40 2 (by decide), y40 3 (by decide), y40 4 (by decide), y40 23 (by decide)]
        exact gA
      · unfold iv_S at gS ⊢
        rw [kk 57 0 (by decide) (by decide) (by decide), kk 29 0 (by decide) (by decide) (by decide)]
        exact gS
      · unfold iv_H at gH ⊢
        rw [kk 20 0 (by decide) (by decide) (by decide), kk 50 0 (by decide) (by decide) (by decide), kk 19 0 (by decide) (by decide) (by decide), kk 51 0 (by decide) (by decide) (by decide), y40 33 (by decide)]
        exact gH
      · intro v hv
        rw [kk 31 v (by decide) (by decide) (by decide), kk 43 0 (by decide) (by decide) (by decide), kk 44 0 (by decide) (by decide) (by decide), kk 45 0 (by decide) (by decide) (by decide), kk 46 0 (by decide) (by decide) (by decide)]
        exact gP v hv
      · intro v hv k hk
        have o33 : I2 33 v = if v = u then upd (I 33 u) i a else I 33 v := by
          rw [k2 33 v (by decide), e0, ms_u_r _ _ _ _ (by decide), e1]
          by_cases e : v = u
          · subst e
            rw [ms_u_s, if_pos rfl]
          · rw [ms_u_i _ _ _ _ e, if_neg e]
        have o42 : I2 42 0 = upd (I 42 0) (4 * u + i) a := by rw [e2, ms_u_s, zr 42 0 (by decide) (by decide)]
        rw [o33, o42]
        by_cases e : v = u
        · subst e
          rw [if_pos rfl]
          by_cases e2 : k = i
          · subst e2
            rw [pk_us, pk_us]
          · rw [pk_un e2, pk_un (by omega)]
            exact gI v hv k hk
        · rw [if_neg e, pk_un (by omega)]
          exact gI v hv k hk
      · intro v hv
        rw [kk 36 v (by decide) (by decide) (by decide), kk 47 0 (by decide) (by decide) (by decide)]
        exact gN v hv
      · intro v hv
        rw [kk 37 v (by decide) (by decide) (by decide), kk 48 0 (by decide) (by decide) (by decide), kk 38 v (by decide) (by decide) (by decide), kk 49 0 (by decide) (by decide) (by decide)]
        exact gK v hv
      · intro v hv
        rw [kk 22 v (by decide) (by decide) (by decide), kk 52 0 (by decide) (by decide) (by decide), kk 24 v (by decide) (by decide) (by decide), kk 53 0 (by decide) (by decide) (by decide), kk 26 v (by decide) (by decide) (by decide), kk 54 0 (by decide) (by decide) (by decide), kk 28 v (by decide) (by decide) (by decide), kk 55 0 (by decide) (by decide) (by decide)]
        exact gR v hv
      · exact ml_keep gM (fun _ h => h) (by rw [kk 14 0 (by decide) (by decide) (by decide)]) (y40 20 (by decide)) (kk 16 0 (by decide) (by decide) (by decide)) (fun p => kk 18 p (by decide) (by decide) (by decide)) (kk 56 0 (by decide) (by decide) (by decide))
      · intro j a b
        rw [kk 6 0 (by decide) (by decide) (by decide)]
        exact gZ j a b
end Set
