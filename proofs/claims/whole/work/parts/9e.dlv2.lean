/-! THE LAW'S DELIVER AND LOSE. -/
section Dlv2
variable {q : Nat × Nat} {w : Bool} {I : ms_i} {J : ms_j} {σ : ms_M}
theorem sp_6b {m : Nat} {x : Int32} (hm : m ≤ 56) (hS : I 14 0 2 = nI m) (hx : ms_in x m = false) : ms_G 6 0 [.ref (ms_ad 3 0), .int x, .null] [] (ms_Z q false I J) = some (.inr 0, ms_Z (q.1, q.2 + 1) true I J) := by
  have h := sp_76 (q := q) (I := I) (J := J) x (show m ≤ 5000 by omega) hS
  rw [hx] at h
  simp (disch := omega) only [↓mi_6_0, ↓mi_6_1, ↓mi_6_4, ↓mi_6_5, ↓mi_6_8, ↓mi_6_11, cond_true, mz_clv, mz_cln, Bool.false_or, Bool.true_or, Bool.or_false, Bool.or_true, if_true, if_false, ite_self, h, if_pos b_f]
theorem sp_6a {k m u s n t : Nat} {b w' : Bool} {I1 I' : ms_i} {J' : ms_j} (hk : k < m) (hm : m ≤ 56) (hu : u < 8) (hs : s < 3) (hQ : I 16 0 k = nI (7 * u + 4 + s)) (hS : I 14 0 2 = nI m) (hN : I 19 0 0 = nI n) (hT : I 19 0 1 = nI t) (e1 : I1 = ms_u (ms_u I 14 0 (upd (I 14 0) 2 (nI (m - 1)))) 16 0 (va_cpy (I 16 0) (I 16 0) (k + 1) k (m - 1 - k))) (r : ms_G 95 0 [.ref (ms_ad 31 u), .ref (ms_ad 17 (7 * u + 4 + s)), .int (nI n), .int (nI t), .null, .null] [] (ms_Z q false I1 J) = some (.inl (some (.int (ms_b b))), ms_Z q w' I' J')) : ms_G 6 0 [.ref (ms_ad 3 0), .int (nI k), .null] [] (ms_Z q false I J) = some (.inl (some (.int (ms_b b))), ms_Z q true I' J') := by
  have h := sp_76 (q := q) (I := I) (J := J) (nI k) (show m ≤ 5000 by omega) hS
  rw [in_nI (by omega), decide_eq_true hk] at h
  have h2 := sp_78 (q := q) (J := J) hk hm (show 7 * u + 4 + s < 56 by omega) hQ hS
  rw [← e1] at h2
  have n1 : I1 19 0 0 = nI n := by rw [e1, ms_u_r _ _ _ _ (by decide), ms_u_r _ _ _ _ (by decide)]; exact hN
  have t1 : I1 19 0 1 = nI t := by rw [e1, ms_u_r _ _ _ _ (by decide), ms_u_r _ _ _ _ (by decide)]; exact hT
  simp (disch := omega) only [↓mi_6_0, ↓mi_6_1, ↓mi_6_4, ↓mi_6_5, ↓mi_6_8, ↓mi_6_19, ↓mi_6_20, ↓mi_6_23, ↓mi_6_24, ↓mi_6_27, ↓mi_6_28, ↓mi_6_29, ↓mi_6_32, ↓mi_6_35, ↓mi_6_36, ↓mi_6_39, ↓mi_6_40, ↓mi_6_43, ↓mi_6_44, ↓mi_6_45, ↓mi_6_46, ↓mi_6_49, ↓mi_6_52, ↓mi_6_53, ↓mi_6_56, ↓mi_6_59, mi_6_62_b, cond_true, mz_clv, mz_cln, Bool.false_or, Bool.true_or, Bool.or_false, Bool.or_true, if_true, if_false, ite_self, o2_30, er_30, h, h2, sva_1 hs, sva_2 hs, if_neg b_t, na_eq, if_neg, n1, t1, r]
theorem sp_6h {k m u s : Nat} {b w' : Bool} {I1 I' : ms_i} {J' : ms_j} (hk : k < m) (hm : m ≤ 56) (hu : u < 8) (hs : s < 4) (hQ : I 16 0 k = nI (7 * u + s)) (hS : I 14 0 2 = nI m) (e1 : I1 = ms_u (ms_u I 14 0 (upd (I 14 0) 2 (nI (m - 1)))) 16 0 (va_cpy (I 16 0) (I 16 0) (k + 1) k (m - 1 - k))) (r : ms_G 119 0 [.ref (ms_ad 19 0), .ref (ms_ad 17 (7 * u + s)), .null, .null] [] (ms_Z q false I1 J) = some (.inl (some (.int (ms_b b))), ms_Z q w' I' J')) : ms_G 6 0 [.ref (ms_ad 3 0), .int (nI k), .null] [] (ms_Z q false I J) = some (.inl (some (.int (ms_b b))), ms_Z q true I' J') := by
  have h := sp_76 (q := q) (I := I) (J := J) (nI k) (show m ≤ 5000 by omega) hS
  rw [in_nI (by omega), decide_eq_true hk] at h
  have h2 := sp_78 (q := q) (J := J) hk hm (show 7 * u + s < 56 by omega) hQ hS
  rw [← e1] at h2
  simp (disch := omega) only [↓mi_6_0, ↓mi_6_1, ↓mi_6_4, ↓mi_6_5, ↓mi_6_8, ↓mi_6_19, ↓mi_6_20, ↓mi_6_23, ↓mi_6_24, ↓mi_6_27, ↓mi_6_28, ↓mi_6_29, ↓mi_6_32, ↓mi_6_63, ↓mi_6_64, ↓mi_6_67, ↓mi_6_68, mi_6_71_b, cond_true, mz_clv, mz_cln, Bool.false_or, Bool.true_or, Bool.or_false, Bool.or_true, if_true, if_false, ite_self, h, h2, svs_2 hs, if_neg b_t, na_eq, if_pos, r]
theorem sp_53b {m : Nat} {x : Int32} (hm : m ≤ 56) (hS : I 40 0 20 = nI m) (hx : ms_in x m = false) : ms_G 53 0 [.ref (ms_ad 40 0), .int x, .null, .null] [] (ms_Z q false I J) = some (.inl (some (.int (ms_b false))), ms_Z q true (ms_u I 40 0 (upd (I 40 0) 0 (nI 1))) J) := by
  have h := sp_52 (q := q) (I := I) (J := J) x hm hS
  rw [hx, if_neg Bool.false_ne_true] at h
  simp (disch := omega) only [↓mi_53_0, ↓mi_53_1, ↓mi_53_2, ↓mi_53_5, ↓mi_53_8, ↓mi_53_9, ↓mi_53_9_1, ↓mi_53_9_b, cond_true, mz_clv, mz_cln, Bool.false_or, Bool.true_or, Bool.or_false, Bool.or_true, if_true, if_false, ite_self, h, if_pos b_f]
  rfl
theorem sp_53a {k m : Nat} {b w' : Bool} {I0 I2 : ms_i} {J2 : ms_j} (hk : k < m) (hm : m ≤ 56) (hS : I 40 0 20 = nI m) (hr : I 56 0 (70 * k + 2) = nI 1) (e0 : I0 = ms_u I 40 0 (upd (I 40 0) 0 (nI 0))) (r : ms_G 50 0 [.ref (ms_ad 40 0), .int (nI (70 * k)), .null, .null, .null, .null, .null] [] (ms_Z q false I0 J) = some (.inl (some (.int (ms_b b))), ms_Z q w' I2 J2)) (hS2 : I2 40 0 20 = nI m) : ms_G 53 0 [.ref (ms_ad 40 0), .int (nI k), .null, .null] [] (ms_Z q false I J) = some (.inl (some (.int (ms_b b))), ms_Z q true (ms_u (ms_u I2 56 0 (ms_to (70 * k) (70 * m - 70) (I2 56 0))) 40 0 (upd (I2 40 0) 20 (nI (m - 1)))) J2) := by
  have h := sp_52 (q := q) (I := I) (J := J) (nI k) hm hS
  rw [in_nI (by omega), decide_eq_true hk, if_pos rfl, ← e0] at h
  have hr0 : I0 56 0 (70 * k + 2) = nI 1 := by rw [e0, ms_u_r _ _ _ _ (by decide)]; exact hr
  have h2 := sp_41 (q := q) (I := I2) (J := J2) hk hm hS2
  simp (disch := omega) only [↓mi_53_0, ↓mi_53_1, ↓mi_53_2, ↓mi_53_5, ↓mi_53_10, ↓mi_53_12, ↓mi_53_13, ↓mi_53_14, ↓mi_53_15, ↓mi_53_16, ↓mi_53_19, ↓mi_53_20, ↓mi_53_21, ↓mi_53_22, ↓mi_53_23, ↓mi_53_24, ↓mi_53_27, ↓mi_53_28, ↓mi_53_29, ↓mi_53_32, ↓mi_53_40, ↓mi_53_41, ↓mi_53_42, ↓mi_53_43, ↓mi_53_46, mi_53_47_b, cond_true, mz_clv, mz_cln, Bool.false_or, Bool.true_or, Bool.or_false, Bool.or_true, if_true, if_false, ite_self, o0_56, h, if_neg b_t, pk_mul, na_up, hr0, na_eq, if_pos, r, h2]
theorem sp_53h {k m : Nat} {b w' : Bool} {I0 I2 : ms_i} {J2 : ms_j} (hk : k < m) (hm : m ≤ 56) (hS : I 40 0 20 = nI m) (hr : I 56 0 (70 * k + 2) = nI 0) (e0 : I0 = ms_u I 40 0 (upd (I 40 0) 0 (nI 0))) (r : ms_G 51 0 [.ref (ms_ad 40 0), .int (nI (70 * k)), .null, .null, .null, .null] [] (ms_Z q false I0 J) = some (.inl (some (.int (ms_b b))), ms_Z q w' I2 J2)) (hS2 : I2 40 0 20 = nI m) : ms_G 53 0 [.ref (ms_ad 40 0), .int (nI k), .null, .null] [] (ms_Z q false I J) = some (.inl (some (.int (ms_b b))), ms_Z q true (ms_u (ms_u I2 56 0 (ms_to (70 * k) (70 * m - 70) (I2 56 0))) 40 0 (upd (I2 40 0) 20 (nI (m - 1)))) J2) := by
  have h := sp_52 (q := q) (I := I) (J := J) (nI k) hm hS
  rw [in_nI (by omega), decide_eq_true hk, if_pos rfl, ← e0] at h
  have hr0 : I0 56 0 (70 * k + 2) = nI 0 := by rw [e0, ms_u_r _ _ _ _ (by decide)]; exact hr
  have h2 := sp_41 (q := q) (I := I2) (J := J2) hk hm hS2
  simp (disch := omega) only [↓mi_53_0, ↓mi_53_1, ↓mi_53_2, ↓mi_53_5, ↓mi_53_10, ↓mi_53_12, ↓mi_53_13, ↓mi_53_14, ↓mi_53_15, ↓mi_53_16, ↓mi_53_19, ↓mi_53_20, ↓mi_53_21, ↓mi_53_22, ↓mi_53_23, ↓mi_53_24, ↓mi_53_35, ↓mi_53_36, ↓mi_53_37, ↓mi_53_40, ↓mi_53_41, ↓mi_53_42, ↓mi_53_43, ↓mi_53_46, mi_53_47_b, cond_true, mz_clv, mz_cln, Bool.false_or, Bool.true_or, Bool.or_false, Bool.or_true, if_true, if_false, ite_self, o0_56, h, if_neg b_t, pk_mul, na_up, hr0, na_eq, if_neg, r, h2]
theorem wr_138a {x : Int32} (h : ms_G 6 0 [.ref (ms_ad 3 0), .int x, .null] [] (ms_Z q false I J) = some (.inr 0, ms_Z (q.1, q.2 + 1) true I J)) : ms_G 138 0 [.ref (ms_ad 3 0), .int x, .ref (ms_ad 66 0), .null] [] (ms_Z q false I J) = some (.inl (some (.int (nI 1))), ms_Z (q.1, q.2 + 1) true I J) := by
  simp (disch := omega) only [↓mi_138_0, ↓mi_138_1, ↓mi_138_2, ↓mi_138_3, ↓mi_138_4, ↓mi_138_4_t0, ↓mi_138_19, ↓mi_138_20, ↓mi_138_21, h]
theorem wr_138v {x : Int32} {b w' : Bool} {I' : ms_i} {J' : ms_j} (h : ms_G 6 0 [.ref (ms_ad 3 0), .int x, .null] [] (ms_Z q false I J) = some (.inl (some (.int (ms_b b))), ms_Z q w' I' J')) : ms_G 138 0 [.ref (ms_ad 3 0), .int x, .ref (ms_ad 66 0), .null] [] (ms_Z q false I J) = some (.inl (some (.int (nI 0))), ms_Z q true I' (ms_u J' 66 0 (vp_updL (J' 66 0) 0 (if b = true then lN 1 else lN 0)))) := by
  cases b with
  | true =>
    rw [if_pos rfl]
    simp (disch := omega) only [↓mi_138_0, ↓mi_138_1, ↓mi_138_2, ↓mi_138_3, ↓mi_138_4, ↓mi_138_4_t0, ↓mi_138_7, ↓mi_138_10, ↓mi_138_11, ↓mi_138_14, ↓mi_138_15, ↓mi_138_16, ↓mi_138_22, ↓mi_138_23, cond_true, mz_clv, mz_cln, Bool.false_or, Bool.true_or, Bool.or_false, Bool.or_true, if_true, if_false, ite_self, o1_66, h, if_neg b_t]
  | false =>
    rw [if_neg Bool.false_ne_true]
    simp (disch := omega) only [↓mi_138_0, ↓mi_138_1, ↓mi_138_2, ↓mi_138_3, ↓mi_138_4, ↓mi_138_4_t0, ↓mi_138_7, ↓mi_138_10, ↓mi_138_11, ↓mi_138_14, ↓mi_138_15, ↓mi_138_16, ↓mi_138_22, ↓mi_138_23, cond_true, mz_clv, mz_cln, Bool.false_or, Bool.true_or, Bool.or_false, Bool.or_true, if_true, if_false, ite_self, o1_66, h, if_pos b_f]
theorem lo_deliver {f : Nat → Int32} {x : Int32} (h : ms_iv f I J) : ∃ (q' : Nat × Nat) (k : Nat) (b w1 w2 : Bool) (I1 : ms_i) (J1 : ms_j) (I2 : ms_i) (J2 : ms_j), ms_G 138 0 [.ref (ms_ad 3 0), .int x, .ref (ms_ad 66 0), .null] [] (ms_Z q false I J) = some (.inl (some (.int (nI k))), ms_Z q' w1 I1 J1) ∧ ms_G 53 0 [.ref (ms_ad 40 0), .int x, .null, .null] [] (ms_Z q' false I1 J1) = some (.inl (some (.int (ms_b b))), ms_Z q' w2 I2 J2) ∧ I2 40 0 0 = nI k ∧ k < 3 ∧ (k = 0 → J2 66 0 0 = if b = true then lN 1 else lN 0) ∧ q'.1 = q.1 ∧ q'.2 ≤ q.2 + 1 ∧ I1 0 0 = f ∧ ms_iv f I2 J2 := by
  have hiv := h
  obtain ⟨h0, n, t, g, nm, hd, S, T, X, m, Q, h⟩ := h
  have hinv := h
  obtain ⟨hA, hSm, hH, hP, hX, hI, hN, hK, hF, hR, hM, hZ⟩ := h
  obtain ⟨a0, a1, a2, b1, b2, b3, b4, b5, n8, tn, g5, t2⟩ := hA
  have m56 := hM.1
  have s14 := hM.2.1
  have s40 := hM.2.2.1
  cases hx : ms_in x m with
  | false =>
    exact ⟨(q.1, q.2 + 1), 1, false, true, true, I, J, ms_u I 40 0 (upd (I 40 0) 0 (nI 1)), J, wr_138a (sp_6b m56 s14 hx), sp_53b m56 s40 hx, by rw [ms_u_s, pk_us], by decide, fun z => absurd z (by decide), rfl, Nat.le_refl _, hiv.1, iv_code hiv _⟩
  | true =>
    obtain ⟨k, hk, rfl⟩ := in_nat (by omega) hx
    obtain ⟨q1, q2, q3, q4⟩ := hM.2.2.2.1 k hk
    obtain ⟨u, eu⟩ : ∃ u, u = Q k / 7 := ⟨_, rfl⟩
    have hu : u < 8 := by omega
    obtain ⟨I1, e1⟩ : ∃ I1, I1 = ms_u (ms_u I 14 0 (upd (I 14 0) 2 (nI (m - 1)))) 16 0 (va_cpy (I 16 0) (I 16 0) (k + 1) k (m - 1 - k)) := ⟨_, rfl⟩
    have g1 : ∀ r v, r ≠ 14 → r ≠ 16 → I1 r v = I r v := fun r v x y => by rw [e1, ms_u_r _ _ _ _ y, ms_u_r _ _ _ _ x]
    have c14 : I1 14 0 = upd (I 14 0) 2 (nI (m - 1)) := by rw [e1, ms_u_r _ _ _ _ (by decide), ms_u_s]
    have c16 : I1 16 0 = va_cpy (I 16 0) (I 16 0) (k + 1) k (m - 1 - k) := by rw [e1, ms_u_s]
    obtain ⟨p1, p2, p3, p4, p5, p6, p7, p8, p9, p10, p11⟩ := hP u hu
    by_cases hr : Q k % 7 < 4
    · -- from a phone
      obtain ⟨s, es⟩ : ∃ s, s = Q k % 7 := ⟨_, rfl⟩
      have hs : s < 4 := by omega
      have eQ : Q k = 7 * u + s := by omega
      have un : u < n := by
        have := q3.1 hr
        rw [← eu] at this
        rcases Nat.lt_or_ge u n with z | z
        · exact z
        · have := p8 z
          omega
      rw [eQ] at q2 q4
      obtain ⟨w0, w1, w2, w3, w4⟩ := q4
      rw [svs_0 hs] at w0
      rw [svs_1 (by omega)] at w1
      rw [svs_2 hs] at w2
      rw [hl_wl hs] at w3
      obtain ⟨B, eB⟩ : ∃ B, B = (decide (s = g) && !ms_bit (I 19 0 4) u && ms_awt g (I 20 0 0) (I 20 0 1) u) := ⟨_, rfl⟩
      have eB2 : (decide (s = g) && !ms_bit (I 51 0 s) u && ms_awt s (I 50 0 0) (I 50 0 1) u) = B := by
        rw [eB]
        by_cases z : s = g
        · rw [z, (hH.2.2.2.1 (by omega)).1, hH.2.2.1, (hH.1 0 (by decide)).2.1, (hH.1 0 (by decide)).2.2, (hH.1 1 (by decide)).2.1, (hH.1 1 (by decide)).2.2]
        · rw [decide_eq_false z]
          rfl
      have fin : ∀ (I' : ms_i) (w' w'' : Bool) (I2 : ms_i) (J1 : ms_j), ms_G 119 0 [.ref (ms_ad 19 0), .ref (ms_ad 17 (7 * u + s)), .null, .null] [] (ms_Z q false I1 J) = some (.inl (some (.int (ms_b B))), ms_Z q w' I' J) → J1 = ms_u J 66 0 (vp_updL (J 66 0) 0 (if B = true then lN 1 else lN 0)) → ms_G 51 0 [.ref (ms_ad 40 0), .int (nI (70 * k)), .null, .null, .null, .null] [] (ms_Z q false (ms_u I' 40 0 (upd (I' 40 0) 0 (nI 0))) J1) = some (.inl (some (.int (ms_b B))), ms_Z q w'' I2 J1) → I' 40 0 = I 40 0 → I' 56 0 = I 56 0 → I' 0 0 = I 0 0 → I2 40 0 = upd (I 40 0) 0 (nI 0) → I2 56 0 = I 56 0 → I2 0 0 = I 0 0 → (∃ hd', ms_inv n t g nm hd' S T X (m - 1) (fun i => Q (if i < k then i else i + 1)) (ms_u (ms_u I2 56 0 (ms_to (70 * k) (70 * m - 70) (I2 56 0))) 40 0 (upd (I2 40 0) 20 (nI (m - 1)))) J1) → ∃ (q' : Nat × Nat) (kk : Nat) (b w1 w2 : Bool) (I1 : ms_i) (J1 : ms_j) (I2 : ms_i) (J2 : ms_j), ms_G 138 0 [.ref (ms_ad 3 0), .int (nI k), .ref (ms_ad 66 0), .null] [] (ms_Z q false I J) = some (.inl (some (.int (nI kk))), ms_Z q' w1 I1 J1) ∧ ms_G 53 0 [.ref (ms_ad 40 0), .int (nI k), .null, .null] [] (ms_Z q' false I1 J1) = some (.inl (some (.int (ms_b b))), ms_Z q' w2 I2 J2) ∧ I2 40 0 0 = nI kk ∧ kk < 3 ∧ (kk = 0 → J2 66 0 0 = if b = true then lN 1 else lN 0) ∧ q'.1 = q.1 ∧ q'.2 ≤ q.2 + 1 ∧ I1 0 0 = f ∧ ms_iv f I2 J2 := by
        intro I' w' w'' I2 J1 r1 ej r2 i40 i56 i00 j40 j56 j0 inv
        have v1 := wr_138v (sp_6h hk m56 hu hs q2 s14 e1 r1)
        rw [← ej] at v1
        have v2 := sp_53h (q := q) (I := I') (J := J1) hk m56 (by rw [i40]; exact s40) (by rw [i56]; exact w2) rfl r2 (by rw [j40, pk_un (by decide)]; exact s40)
        obtain ⟨hd', inv⟩ := inv
        refine ⟨q, 0, B, true, true, _, _, _, _, v1, v2, ?_, by decide, fun _ => ?_, rfl, by omega, by rw [i00]; exact h0, ?_, n, t, g, nm, hd', S, T, X, _, _, inv⟩
        · rw [ms_u_s, pk_un (by decide), j40, pk_us]
        · rw [ej, ms_u_s, pk_uLs]
        · rw [ms_u_r _ _ _ _ (by decide), ms_u_r _ _ _ _ (by decide), j0]
          exact h0
      obtain ⟨J1, ej⟩ : ∃ J1, J1 = ms_u J 66 0 (vp_updL (J 66 0) 0 (if B = true then lN 1 else lN 0)) := ⟨_, rfl⟩
      have fj : ms_fq [66] J J1 := by rw [ej]; exact fr_u rfl
      cases hB : B with
      | false =>
        rw [hB] at eB eB2
        have r1 := sp_119n (q := q) (I := I1) (J := J) hu g5 hs (by rw [g1 19 0 (by decide) (by decide)]; exact a2) (by rw [g1 19 0 (by decide) (by decide), g1 20 0 (by decide) (by decide)]; exact eB.symm)
        obtain ⟨I0, e0⟩ : ∃ I0, I0 = ms_u I1 40 0 (upd (I1 40 0) 0 (nI 0)) := ⟨_, rfl⟩
        have g0 : ∀ r v, r ≠ 40 → r ≠ 14 → r ≠ 16 → I0 r v = I r v := fun r v x y z => by rw [e0, ms_u_r _ _ _ _ x, g1 r v y z]
        have f40 : I0 40 0 = upd (I 40 0) 0 (nI 0) := by rw [e0, ms_u_s, g1 40 0 (by decide) (by decide)]
        have r2 := sp_51n (q := q) (I := I0) (J := J1) (a := 70 * k) hu g5 hs (by omega) (by rw [f40, pk_un (by decide)]; exact b3) (by rw [g0 56 0 (by decide) (by decide) (by decide)]; exact w0) (by rw [g0 56 0 (by decide) (by decide) (by decide)]; exact w1) (by rw [g0 51 0 (by decide) (by decide) (by decide), g0 50 0 (by decide) (by decide) (by decide)]; exact eB2)
        refine fin I1 false false I0 J1 (by rw [hB]; exact r1) ej (by rw [hB, ← e0]; exact r2) (g1 40 0 (by decide) (by decide)) (g1 56 0 (by decide) (by decide)) (g1 0 0 (by decide) (by decide)) f40 (g0 56 0 (by decide) (by decide) (by decide)) (g0 0 0 (by decide) (by decide) (by decide)) ⟨hd, iv_rm hinv hk (rm_mk hk ?_ ?_ ?_ ?_ ?_) ?_ fj⟩
        · rw [ms_u_r _ _ _ _ (by decide), ms_u_r _ _ _ _ (by decide), e0, ms_u_r _ _ _ _ (by decide), c14]
        · rw [ms_u_r _ _ _ _ (by decide), ms_u_r _ _ _ _ (by decide), e0, ms_u_r _ _ _ _ (by decide), c16]
        · intro p
          rw [ms_u_r _ _ _ _ (by decide), ms_u_r _ _ _ _ (by decide), g0 18 p (by decide) (by decide) (by decide)]
        · rw [ms_u_r _ _ _ _ (by decide), ms_u_s, g0 56 0 (by decide) (by decide) (by decide)]
        · rw [ms_u_s, f40]
        · rw [e0, e1]
          exact fr_tr (fr_tr (fr_tr (fr_tr (fr_u rfl) (fr_u rfl)) (fr_u rfl)) (fr_u rfl)) (fr_u rfl)
      | true =>
        rw [hB] at eB eB2
        have eg : s = g := by
          have := eB.symm
          simp only [Bool.and_eq_true, decide_eq_true_eq] at this
          exact this.1.1
        obtain ⟨I', r1, c1, c2, c3⟩ := sp_119y (q := q) (I := I1) (J := J) hu g5 hs (by rw [g1 19 0 (by decide) (by decide)]; exact a2) (by rw [g1 19 0 (by decide) (by decide), g1 20 0 (by decide) (by decide)]; exact eB.symm)
        obtain ⟨I0, e0⟩ : ∃ I0, I0 = ms_u I' 40 0 (upd (I' 40 0) 0 (nI 0)) := ⟨_, rfl⟩
        have gg : ∀ r v, r < 22 ∨ 29 ≤ r → r ≠ 19 → r ≠ 14 → r ≠ 16 → I' r v = I r v := fun r v x y z z2 => by rw [c3 r v (Or.inl (by omega)) y, g1 r v z z2]
        have g0 : ∀ r v, r < 22 ∨ 29 ≤ r → r ≠ 40 → r ≠ 19 → r ≠ 14 → r ≠ 16 → I0 r v = I r v := fun r v x y z z2 z3 => by rw [e0, ms_u_r _ _ _ _ y, gg r v x z z2 z3]
        have f40 : I0 40 0 = upd (I 40 0) 0 (nI 0) := by rw [e0, ms_u_s, gg 40 0 (by omega) (by decide) (by decide) (by decide)]
        obtain ⟨I2, r2, d1, d2, d3, d4⟩ := sp_51y (q := q) (I := I0) (J := J1) (a := 70 * k) hu g5 hs (by omega) (by rw [f40, pk_un (by decide)]; exact b3) (by rw [g0 56 0 (by omega) (by decide) (by decide) (by decide) (by decide)]; exact w0) (by rw [g0 56 0 (by omega) (by decide) (by decide) (by decide) (by decide)]; exact w1) (by rw [g0 56 0 (by omega) (by decide) (by decide) (by decide) (by decide)]; exact w3) (by rw [g0 51 0 (by omega) (by decide) (by decide) (by decide) (by decide), g0 50 0 (by omega) (by decide) (by decide) (by decide) (by decide)]; exact eB2)
        have k2 : ∀ r v, r ≠ 51 → r < 52 ∨ 56 ≤ r → I2 r v = I0 r v := fun r v x y => d4 r v x (by omega)
        have j40 : I2 40 0 = upd (I 40 0) 0 (nI 0) := by rw [k2 40 0 (by decide) (by omega), f40]
        have j56 : I2 56 0 = I 56 0 := by rw [k2 56 0 (by decide) (by omega), g0 56 0 (by omega) (by decide) (by decide) (by decide) (by decide)]
        obtain ⟨I3, e3⟩ : ∃ I3, I3 = ms_u (ms_u I2 56 0 (ms_to (70 * k) (70 * m - 70) (I2 56 0))) 40 0 (upd (I2 40 0) 20 (nI (m - 1))) := ⟨_, rfl⟩
        have k3 : ∀ r v, r ≠ 56 → r ≠ 40 → I3 r v = I2 r v := fun r v x y => by rw [e3, ms_u_r _ _ _ _ y, ms_u_r _ _ _ _ x]
        have i0 : ∀ r v, r ≠ 40 → I0 r v = I' r v := fun r v x => by rw [e0, ms_u_r _ _ _ _ x]
        refine fin I' true true I2 J1 (by rw [hB]; exact r1) ej (by rw [hB, ← e0]; exact r2) (gg 40 0 (by omega) (by decide) (by decide) (by decide)) (gg 56 0 (by omega) (by decide) (by decide) (by decide)) (gg 0 0 (by omega) (by decide) (by decide) (by decide)) j40 j56 (by rw [k2 0 0 (by decide) (by omega), g0 0 0 (by omega) (by decide) (by decide) (by decide) (by decide)]) ⟨hd ||| 2 ^ u, ?_⟩
        rw [← e3]
        refine iv_hr hinv un hs hk eQ eg (rm_mk hk ?_ ?_ ?_ ?_ ?_) ?_ ?_ ?_ ?_ ?_ ?_ ?_ fj
        · rw [k3 14 0 (by decide) (by decide), k2 14 0 (by decide) (by omega), i0 14 0 (by decide), c3 14 0 (Or.inl (by omega)) (by decide), c14]
        · rw [k3 16 0 (by decide) (by decide), k2 16 0 (by decide) (by omega), i0 16 0 (by decide), c3 16 0 (Or.inl (by omega)) (by decide), c16]
        · intro p
          rw [k3 18 p (by decide) (by decide), k2 18 p (by decide) (by omega), g0 18 p (by omega) (by decide) (by decide) (by decide) (by decide)]
        · rw [e3, ms_u_r _ _ _ _ (by decide), ms_u_s, j56]
        · rw [e3, ms_u_s, j40]
        · intro j hj
          rw [k3 _ u (by omega) (by omega), k2 _ u (by omega) (by omega), i0 _ u (by omega), c1 j hj, g1 18 _ (by decide) (by decide)]
        · rw [k3 19 0 (by decide) (by decide), k2 19 0 (by decide) (by omega), i0 19 0 (by decide), c2, g1 19 0 (by decide) (by decide)]
        · intro v hv
          rw [k3 _ v (by omega) (by omega), k2 _ v (by omega) (by omega), i0 _ v (by omega), c3 _ v (Or.inr hv) (by omega), g1 _ v (by omega) (by omega)]
        · intro j hj
          rw [k3 _ 0 (by omega) (by omega), d1 j hj, g0 56 0 (by omega) (by decide) (by decide) (by decide) (by decide)]
        · intro i hi
          rw [k3 _ 0 (by omega) (by omega), d2 i hi, g0 _ 0 (by omega) (by omega) (by omega) (by omega) (by omega)]
        · rw [k3 51 0 (by decide) (by decide), d3, g0 51 0 (by omega) (by decide) (by decide) (by decide) (by decide)]
        · intro r hr
          simp only [List.mem_cons, List.not_mem_nil, or_false, not_or] at hr
          funext v
          rw [k3 r v (by omega) (by omega), d4 r v (by omega) (by omega), i0 r v (by omega), c3 r v (Or.inl (by omega)) (by omega), g1 r v (by omega) (by omega)]
    · -- from the server
      obtain ⟨s, es⟩ : ∃ s, s = Q k % 7 - 4 := ⟨_, rfl⟩
      have hs : s < 3 := by omega
      have eQ : Q k = 7 * u + 4 + s := by omega
      rw [eQ] at q2 q4
      have q4' := q4
      obtain ⟨w0, w1, w2, w3, w4⟩ := q4
      rw [sva_0 hs] at w0
      rw [sva_1 hs] at w1
      rw [sva_2 hs] at w2
      have lw : 0 < ms_wl (7 * u + 4 + s) := by
        unfold ms_wl
        have : (7 * u + 4 + s) % 7 = 4 ∨ (7 * u + 4 + s) % 7 = 5 ∨ (7 * u + 4 + s) % 7 = 6 := by omega
        rcases this with h | h | h <;> rw [h] <;> decide
      have w5 := w4 0 lw
      rw [Nat.add_zero] at w5
      obtain ⟨B, eB⟩ : ∃ B, B = (decide (S u = s + 1) && decide (T u = s) && ms_gd n t s u (I 18 (7 * u + 4 + s) 0) (I 36 u (s - 1))) := ⟨_, rfl⟩
      have eB2 : (decide (S u = s + 1) && decide (T u = s) && ms_gd n t s u (I 56 0 (70 * k + 4)) (I 47 0 (3 * u + s - 1))) = B := by
        rw [eB, w5]
        by_cases z : s = 0
        · have : ∀ y y', ms_gd n t s u (I 18 (7 * u + 4 + s) 0) y = ms_gd n t s u (I 18 (7 * u + 4 + s) 0) y' := fun y y' => by
            unfold ms_gd
            rw [decide_eq_true z, Bool.true_or, Bool.true_or]
          rw [this (I 47 0 (3 * u + s - 1)) (I 36 u (s - 1))]
        · rw [(hN u hu).1 (s - 1) (by omega), show 3 * u + (s - 1) = 3 * u + s - 1 by omega]
      have fin : ∀ (I' : ms_i) (w' w'' : Bool) (I2 : ms_i) (J1 : ms_j), ms_G 95 0 [.ref (ms_ad 31 u), .ref (ms_ad 17 (7 * u + 4 + s)), .int (nI n), .int (nI t), .null, .null] [] (ms_Z q false I1 J) = some (.inl (some (.int (ms_b B))), ms_Z q w' I' J) → J1 = ms_u J 66 0 (vp_updL (J 66 0) 0 (if B = true then lN 1 else lN 0)) → ms_G 50 0 [.ref (ms_ad 40 0), .int (nI (70 * k)), .null, .null, .null, .null, .null] [] (ms_Z q false (ms_u I' 40 0 (upd (I' 40 0) 0 (nI 0))) J1) = some (.inl (some (.int (ms_b B))), ms_Z q w'' I2 J1) → I' 40 0 = I 40 0 → I' 56 0 = I 56 0 → I' 0 0 = I 0 0 → I2 40 0 = upd (I 40 0) 0 (nI 0) → I2 56 0 = I 56 0 → I2 0 0 = I 0 0 → (∃ T', ms_inv n t g nm hd S T' X (m - 1) (fun i => Q (if i < k then i else i + 1)) (ms_u (ms_u I2 56 0 (ms_to (70 * k) (70 * m - 70) (I2 56 0))) 40 0 (upd (I2 40 0) 20 (nI (m - 1)))) J1) → ∃ (q' : Nat × Nat) (kk : Nat) (b w1 w2 : Bool) (I1 : ms_i) (J1 : ms_j) (I2 : ms_i) (J2 : ms_j), ms_G 138 0 [.ref (ms_ad 3 0), .int (nI k), .ref (ms_ad 66 0), .null] [] (ms_Z q false I J) = some (.inl (some (.int (nI kk))), ms_Z q' w1 I1 J1) ∧ ms_G 53 0 [.ref (ms_ad 40 0), .int (nI k), .null, .null] [] (ms_Z q' false I1 J1) = some (.inl (some (.int (ms_b b))), ms_Z q' w2 I2 J2) ∧ I2 40 0 0 = nI kk ∧ kk < 3 ∧ (kk = 0 → J2 66 0 0 = if b = true then lN 1 else lN 0) ∧ q'.1 = q.1 ∧ q'.2 ≤ q.2 + 1 ∧ I1 0 0 = f ∧ ms_iv f I2 J2 := by
        intro I' w' w'' I2 J1 r1 ej r2 i40 i56 i00 j40 j56 j0 inv
        have v1 := wr_138v (sp_6a hk m56 hu hs q2 s14 a0 a1 e1 r1)
        rw [← ej] at v1
        have v2 := sp_53a (q := q) (I := I') (J := J1) hk m56 (by rw [i40]; exact s40) (by rw [i56]; exact w2) rfl r2 (by rw [j40, pk_un (by decide)]; exact s40)
        obtain ⟨T', inv⟩ := inv
        refine ⟨q, 0, B, true, true, _, _, _, _, v1, v2, ?_, by decide, fun _ => ?_, rfl, by omega, by rw [i00]; exact h0, ?_, n, t, g, nm, hd, S, T', X, _, _, inv⟩
        · rw [ms_u_s, pk_un (by decide), j40, pk_us]
        · rw [ej, ms_u_s, pk_uLs]
        · rw [ms_u_r _ _ _ _ (by decide), ms_u_r _ _ _ _ (by decide), j0]
          exact h0
      obtain ⟨J1, ej⟩ : ∃ J1, J1 = ms_u J 66 0 (vp_updL (J 66 0) 0 (if B = true then lN 1 else lN 0)) := ⟨_, rfl⟩
      have fj : ms_fq [66] J J1 := by rw [ej]; exact fr_u rfl
      have x31 : I1 31 u = I 31 u := g1 31 u (by decide) (by decide)
      have x36 : I1 36 u = I 36 u := g1 36 u (by decide) (by decide)
      have x18 : ∀ p, I1 18 p = I 18 p := fun p => g1 18 p (by decide) (by decide)
      cases hB : B with
      | false =>
        rw [hB] at eB eB2
        have r1 := sp_95n (q := q) (I := I1) (J := J) (n := n) (t := t) hu hs n8 (by omega) p6 (show T u ≤ 4 by omega) (by rw [x31]; exact p1) (by rw [x31]; exact p3) (by rw [x18, x36]; exact eB.symm)
        obtain ⟨I0, e0⟩ : ∃ I0, I0 = ms_u I1 40 0 (upd (I1 40 0) 0 (nI 0)) := ⟨_, rfl⟩
        have g0 : ∀ r v, r ≠ 40 → r ≠ 14 → r ≠ 16 → I0 r v = I r v := fun r v x y z => by rw [e0, ms_u_r _ _ _ _ x, g1 r v y z]
        have f40 : I0 40 0 = upd (I 40 0) 0 (nI 0) := by rw [e0, ms_u_s, g1 40 0 (by decide) (by decide)]
        have r2 := sp_50n (q := q) (I := I0) (J := J1) (a := 70 * k) (n := n) (t := t) hu hs n8 (by omega) p6 (show T u ≤ 4 by omega) (by omega) (by rw [f40, pk_un (by decide)]; exact b1) (by rw [f40, pk_un (by decide)]; exact b2) (by rw [g0 43 0 (by decide) (by decide) (by decide)]; exact p2) (by rw [g0 44 0 (by decide) (by decide) (by decide)]; exact p4) (by rw [g0 56 0 (by decide) (by decide) (by decide)]; exact w0) (by rw [g0 56 0 (by decide) (by decide) (by decide)]; exact w1) (by rw [g0 56 0 (by decide) (by decide) (by decide), g0 47 0 (by decide) (by decide) (by decide)]; exact eB2)
        refine fin I1 false false I0 J1 (by rw [hB]; exact r1) ej (by rw [hB, ← e0]; exact r2) (g1 40 0 (by decide) (by decide)) (g1 56 0 (by decide) (by decide)) (g1 0 0 (by decide) (by decide)) f40 (g0 56 0 (by decide) (by decide) (by decide)) (g0 0 0 (by decide) (by decide) (by decide)) ⟨T, iv_rm hinv hk (rm_mk hk ?_ ?_ ?_ ?_ ?_) ?_ fj⟩
        · rw [ms_u_r _ _ _ _ (by decide), ms_u_r _ _ _ _ (by decide), e0, ms_u_r _ _ _ _ (by decide), c14]
        · rw [ms_u_r _ _ _ _ (by decide), ms_u_r _ _ _ _ (by decide), e0, ms_u_r _ _ _ _ (by decide), c16]
        · intro p
          rw [ms_u_r _ _ _ _ (by decide), ms_u_r _ _ _ _ (by decide), g0 18 p (by decide) (by decide) (by decide)]
        · rw [ms_u_r _ _ _ _ (by decide), ms_u_s, g0 56 0 (by decide) (by decide) (by decide)]
        · rw [ms_u_s, f40]
        · rw [e0, e1]
          exact fr_tr (fr_tr (fr_tr (fr_tr (fr_u rfl) (fr_u rfl)) (fr_u rfl)) (fr_u rfl)) (fr_u rfl)
      | true =>
        rw [hB] at eB eB2
        have eB3 := eB.symm
        simp only [Bool.and_eq_true, decide_eq_true_eq] at eB3
        obtain ⟨⟨eS, eT⟩, hgd⟩ := eB3
        obtain ⟨I', r1, c1, c2, c3, c4, c5, c6, c7⟩ := sp_95y (q := q) (I := I1) (J := J) (n := n) (t := t) hu hs n8 (by omega) p6 (show T u ≤ 4 by omega) (by rw [x31]; exact p1) (by rw [x31]; exact p3) (by rw [x18, x36]; exact eB.symm)
        obtain ⟨I0, e0⟩ : ∃ I0, I0 = ms_u I' 40 0 (upd (I' 40 0) 0 (nI 0)) := ⟨_, rfl⟩
        have gg : ∀ r v, r ≠ 31 → r ≠ 36 → r ≠ 37 → r ≠ 38 → r ≠ 14 → r ≠ 16 → I' r v = I r v := fun r v z1 z2 z3 z4 z5 z6 => by rw [c7 r v (Or.inl z1) (Or.inl z2) (Or.inl z3) (Or.inl z4), g1 r v z5 z6]
        have g0 : ∀ r v, r ≠ 40 → r ≠ 31 → r ≠ 36 → r ≠ 37 → r ≠ 38 → r ≠ 14 → r ≠ 16 → I0 r v = I r v := fun r v z0 z1 z2 z3 z4 z5 z6 => by rw [e0, ms_u_r _ _ _ _ z0, gg r v z1 z2 z3 z4 z5 z6]
        have f40 : I0 40 0 = upd (I 40 0) 0 (nI 0) := by rw [e0, ms_u_s, gg 40 0 (by decide) (by decide) (by decide) (by decide) (by decide) (by decide)]
        have y56 : I0 56 0 = I 56 0 := g0 56 0 (by decide) (by decide) (by decide) (by decide) (by decide) (by decide) (by decide)
        have y47 : I0 47 0 = I 47 0 := g0 47 0 (by decide) (by decide) (by decide) (by decide) (by decide) (by decide) (by decide)
        have y48 : I0 48 0 = I 48 0 := g0 48 0 (by decide) (by decide) (by decide) (by decide) (by decide) (by decide) (by decide)
        have y49 : I0 49 0 = I 49 0 := g0 49 0 (by decide) (by decide) (by decide) (by decide) (by decide) (by decide) (by decide)
        have y43 : I0 43 0 = I 43 0 := g0 43 0 (by decide) (by decide) (by decide) (by decide) (by decide) (by decide) (by decide)
        have y44 : I0 44 0 = I 44 0 := g0 44 0 (by decide) (by decide) (by decide) (by decide) (by decide) (by decide) (by decide)
        obtain ⟨I2, r2, d1, d2, d3, d4, d5, d6, d7⟩ := sp_50y (q := q) (I := I0) (J := J1) (a := 70 * k) (n := n) (t := t) hu hs n8 (by omega) p6 (show T u ≤ 4 by omega) (by omega) (by rw [f40, pk_un (by decide)]; exact b1) (by rw [f40, pk_un (by decide)]; exact b2) (by rw [y43]; exact p2) (by rw [y44]; exact p4) (by rw [y56]; exact w0) (by rw [y56]; exact w1) (by rw [y56, y47]; exact eB2)
        have j40 : I2 40 0 = upd (I 40 0) 0 (nI 0) := by rw [fr_at d7 40 rfl 0, f40]
        have j56 : I2 56 0 = I 56 0 := by rw [fr_at d7 56 rfl 0, y56]
        obtain ⟨I3, e3⟩ : ∃ I3, I3 = ms_u (ms_u I2 56 0 (ms_to (70 * k) (70 * m - 70) (I2 56 0))) 40 0 (upd (I2 40 0) 20 (nI (m - 1))) := ⟨_, rfl⟩
        have k3 : ∀ r v, r ≠ 56 → r ≠ 40 → I3 r v = I2 r v := fun r v x y => by rw [e3, ms_u_r _ _ _ _ y, ms_u_r _ _ _ _ x]
        have i0 : ∀ r v, r ≠ 40 → I0 r v = I' r v := fun r v x => by rw [e0, ms_u_r _ _ _ _ x]
        have kc : ∀ r, [44, 47, 48, 49].contains r = false → r ≠ 56 → r ≠ 40 → ∀ v, I3 r v = I' r v := fun r z z2 z3 v => by rw [k3 r v z2 z3, fr_at d7 r z v, i0 r v z3]
        rw [eT] at c6 d6
        refine fin I' true true I2 J1 (by rw [hB]; exact r1) ej (by rw [hB, ← e0]; exact r2) (gg 40 0 (by decide) (by decide) (by decide) (by decide) (by decide) (by decide)) (gg 56 0 (by decide) (by decide) (by decide) (by decide) (by decide) (by decide)) (gg 0 0 (by decide) (by decide) (by decide) (by decide) (by decide) (by decide)) j40 j56 (by rw [fr_at d7 0 rfl 0, g0 0 0 (by decide) (by decide) (by decide) (by decide) (by decide) (by decide) (by decide)]) ⟨ms_sN T u (s + 1), ?_⟩
        rw [← e3]
        refine iv_tk hinv hu hs hk eQ eS eT hgd (rm_mk hk ?_ ?_ ?_ ?_ ?_) ?_ ?_ ?_ ?_ ?_ ?_ ?_ ?_ ?_ ?_ ?_ ?_ ?_ ?_ fj
        · rw [kc 14 rfl (by decide) (by decide), c7 14 0 (Or.inl (by decide)) (Or.inl (by decide)) (Or.inl (by decide)) (Or.inl (by decide)), c14]
        · rw [kc 16 rfl (by decide) (by decide), c7 16 0 (Or.inl (by decide)) (Or.inl (by decide)) (Or.inl (by decide)) (Or.inl (by decide)), c16]
        · intro p
          rw [kc 18 rfl (by decide) (by decide), gg 18 p (by decide) (by decide) (by decide) (by decide) (by decide) (by decide)]
        · rw [e3, ms_u_r _ _ _ _ (by decide), ms_u_s, j56]
        · rw [e3, ms_u_s, j40]
        · rw [kc 36 rfl (by decide) (by decide), c1, x36, x18]
        · intro z j hj
          rw [kc 37 rfl (by decide) (by decide), c2 z j hj, x18]
        · intro z
          rw [kc 37 rfl (by decide) (by decide), c3 z, g1 37 u (by decide) (by decide)]
        · intro z j hj
          rw [kc 38 rfl (by decide) (by decide), c4 z j hj, x18]
        · intro z
          rw [kc 38 rfl (by decide) (by decide), c5 z, g1 38 u (by decide) (by decide)]
        · rw [kc 31 rfl (by decide) (by decide), c6, x31]
        · intro r hr v hv
          rw [kc r (by rcases hr with h | h | h | h <;> subst h <;> rfl) (by omega) (by omega), c7 r v (Or.inr hv) (Or.inr hv) (Or.inr hv) (Or.inr hv), g1 r v (by omega) (by omega)]
        · rw [k3 47 0 (by decide) (by decide), d1, y47, y56]
        · intro z j hj
          rw [k3 48 0 (by decide) (by decide), d2 z j hj, y56]
        · intro i hi
          rw [k3 48 0 (by decide) (by decide), d3 i hi, y48]
        · intro z j hj
          rw [k3 49 0 (by decide) (by decide), d4 z j hj, y56]
        · intro i hi
          rw [k3 49 0 (by decide) (by decide), d5 i hi, y49]
        · rw [k3 44 0 (by decide) (by decide), d6, y44]
        · intro r hr
          simp only [List.mem_cons, List.not_mem_nil, or_false, not_or] at hr
          funext v
          rw [k3 r v (by omega) (by omega), d7 r (by simp only [List.mem_cons, List.not_mem_nil, or_false, not_or]; omega), i0 r v (by omega), gg r v (by omega) (by omega) (by omega) (by omega) (by omega) (by omega)]
end Dlv2
