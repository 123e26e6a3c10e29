/-! LOSE, ALTER, MESSAGE. -/
section Few
variable {q : Nat × Nat} {w : Bool} {I : ms_i} {J : ms_j} {σ : ms_M}
theorem wr_139a {x : Int32} (h : ms_G 7 0 [.ref (ms_ad 3 0), .int x] [] (ms_Z q false I J) = some (.inr 0, ms_Z (q.1, q.2 + 1) true I J)) : ms_G 139 0 [.ref (ms_ad 3 0), .int x, .null] [] (ms_Z q false I J) = some (.inl (some (.int (nI 1))), ms_Z (q.1, q.2 + 1) true I J) := by
  simp (disch := omega) only [↓mi_139_0, ↓mi_139_1, ↓mi_139_2, ↓mi_139_2_t0, ↓mi_139_8, ↓mi_139_9, ↓mi_139_10, h]
theorem wr_139v {x : Int32} {w' : Bool} {I' : ms_i} {J' : ms_j} (h : ms_G 7 0 [.ref (ms_ad 3 0), .int x] [] (ms_Z q false I J) = some (.inl none, ms_Z q w' I' J')) : ms_G 139 0 [.ref (ms_ad 3 0), .int x, .null] [] (ms_Z q false I J) = some (.inl (some (.int (nI 0))), ms_Z q w' I' J') := by
  simp (disch := omega) only [↓mi_139_0, ↓mi_139_1, ↓mi_139_2, ↓mi_139_2_t0, ↓mi_139_5, ↓mi_139_11, ↓mi_139_12, cond_true, mz_clv, mz_cln, Bool.false_or, Bool.true_or, Bool.or_false, Bool.or_true, if_true, if_false, ite_self, h]
theorem lo_lose {f : Nat → Int32} {x : Int32} (h : ms_iv f I J) : ∃ (q' : Nat × Nat) (k : Nat) (w1 w2 : Bool) (I1 : ms_i) (J1 : ms_j) (I2 : ms_i) (J2 : ms_j), ms_G 139 0 [.ref (ms_ad 3 0), .int x, .null] [] (ms_Z q false I J) = some (.inl (some (.int (nI k))), ms_Z q' w1 I1 J1) ∧ ms_G 54 0 [.ref (ms_ad 40 0), .int x] [] (ms_Z q' false I1 J1) = some (.inl none, ms_Z q' w2 I2 J2) ∧ I2 40 0 0 = nI k ∧ q'.1 = q.1 ∧ q'.2 ≤ q.2 + 1 ∧ I1 0 0 = f ∧ ms_iv f I2 J2 := by
  have hiv := h
  obtain ⟨h0, n, t, g, nm, hd, S, T, X, m, Q, h⟩ := h
  have hinv := h
  obtain ⟨hA, hSm, hH, hP, hX, hI, hN, hK, hF, hR, hM, hZ⟩ := h
  have m56 := hM.1
  have s14 := hM.2.1
  have s40 := hM.2.2.1
  have c1 := sp_76 (q := q) (I := I) (J := J) x (show m ≤ 5000 by omega) s14
  cases hx : ms_in x m with
  | false =>
    rw [hx] at c1
    have d1 := sp_52 (q := (q.1, q.2 + 1)) (I := I) (J := J) x m56 s40
    rw [hx, if_neg Bool.false_ne_true] at d1
    have r1 : ms_G 7 0 [.ref (ms_ad 3 0), .int x] [] (ms_Z q false I J) = some (.inr 0, ms_Z (q.1, q.2 + 1) true I J) := by
      simp (disch := omega) only [↓mi_7_0, ↓mi_7_1, ↓mi_7_4, ↓mi_7_5, ↓mi_7_8, ↓mi_7_11, cond_true, mz_clv, mz_cln, Bool.false_or, Bool.true_or, Bool.or_false, Bool.or_true, if_true, if_false, ite_self, c1, if_pos b_f]
    have r2 : ms_G 54 0 [.ref (ms_ad 40 0), .int x] [] (ms_Z (q.1, q.2 + 1) false I J) = some (.inl none, ms_Z (q.1, q.2 + 1) true (ms_u I 40 0 (upd (I 40 0) 0 (nI 1))) J) := by
      simp (disch := omega) only [↓mi_54_0, ↓mi_54_1, ↓mi_54_2, ↓mi_54_5, ↓mi_54_8, ↓mi_54_9, ↓mi_54_10, ↓mi_54_13, cond_true, mz_clv, mz_cln, Bool.false_or, Bool.true_or, Bool.or_false, Bool.or_true, if_true, if_false, ite_self, d1, if_pos b_f]
    exact ⟨(q.1, q.2 + 1), 1, true, true, I, J, _, J, wr_139a r1, r2, by rw [ms_u_s, pk_us], rfl, Nat.le_refl _, hiv.1, iv_code hiv _⟩
  | true =>
    obtain ⟨k, hk, rfl⟩ := in_nat (by omega) hx
    rw [hx] at c1
    obtain ⟨q1, q2, q3, q4⟩ := hM.2.2.2.1 k hk
    have c2 := sp_78 (q := q) (J := J) hk m56 q1 q2 s14
    obtain ⟨I1, e1⟩ : ∃ I1, I1 = ms_u (ms_u I 14 0 (upd (I 14 0) 2 (nI (m - 1)))) 16 0 (va_cpy (I 16 0) (I 16 0) (k + 1) k (m - 1 - k)) := ⟨_, rfl⟩
    rw [← e1] at c2
    have g1 : ∀ r v, r ≠ 14 → r ≠ 16 → I1 r v = I r v := fun r v x y => by rw [e1, ms_u_r _ _ _ _ y, ms_u_r _ _ _ _ x]
    have r1 : ms_G 7 0 [.ref (ms_ad 3 0), .int (nI k)] [] (ms_Z q false I J) = some (.inl none, ms_Z q true I1 J) := by
      simp (disch := omega) only [↓mi_7_0, ↓mi_7_1, ↓mi_7_4, ↓mi_7_5, ↓mi_7_8, ↓mi_7_19, ↓mi_7_20, ↓mi_7_23, ↓mi_7_24, ↓mi_7_27, ↓mi_7_28, cond_true, mz_clv, mz_cln, Bool.false_or, Bool.true_or, Bool.or_false, Bool.or_true, if_true, if_false, ite_self, c1, if_neg b_t, c2]
    have d1 := sp_52 (q := q) (I := I1) (J := J) (nI k) m56 (by rw [g1 40 0 (by decide) (by decide)]; exact s40)
    rw [hx, if_pos rfl] at d1
    obtain ⟨I0, e0⟩ : ∃ I0, I0 = ms_u I1 40 0 (upd (I1 40 0) 0 (nI 0)) := ⟨_, rfl⟩
    rw [← e0] at d1
    have g0 : ∀ r v, r ≠ 40 → r ≠ 14 → r ≠ 16 → I0 r v = I r v := fun r v x y z => by rw [e0, ms_u_r _ _ _ _ x, g1 r v y z]
    have f40 : I0 40 0 = upd (I 40 0) 0 (nI 0) := by rw [e0, ms_u_s, g1 40 0 (by decide) (by decide)]
    have d2 := sp_41 (q := q) (I := I0) (J := J) hk m56 (by rw [f40, pk_un (by decide)]; exact s40)
    have r2 : ms_G 54 0 [.ref (ms_ad 40 0), .int (nI k)] [] (ms_Z q false I1 J) = some (.inl none, ms_Z q true (ms_u (ms_u I0 56 0 (ms_to (70 * k) (70 * m - 70) (I0 56 0))) 40 0 (upd (I0 40 0) 20 (nI (m - 1)))) J) := by
      simp (disch := omega) only [↓mi_54_0, ↓mi_54_1, ↓mi_54_2, ↓mi_54_5, ↓mi_54_8, ↓mi_54_9, ↓mi_54_10, ↓mi_54_13, cond_true, mz_clv, mz_cln, Bool.false_or, Bool.true_or, Bool.or_false, Bool.or_true, if_true, if_false, ite_self, d1, if_neg b_t, d2]
    refine ⟨q, 0, true, true, _, J, _, J, wr_139v r1, r2, ?_, rfl, by omega, by rw [g1 0 0 (by decide) (by decide)]; exact h0, ?_, n, t, g, nm, hd, S, T, X, _, _, iv_rm hinv hk (rm_mk hk ?_ ?_ ?_ ?_ ?_) ?_ fr_rf⟩
    · rw [ms_u_s, pk_un (by decide), f40, pk_us]
    · rw [ms_u_r _ _ _ _ (by decide), ms_u_r _ _ _ _ (by decide), g0 0 0 (by decide) (by decide) (by decide)]
      exact h0
    · rw [ms_u_r _ _ _ _ (by decide), ms_u_r _ _ _ _ (by decide), e0, ms_u_r _ _ _ _ (by decide), e1, ms_u_r _ _ _ _ (by decide), ms_u_s]
    · rw [ms_u_r _ _ _ _ (by decide), ms_u_r _ _ _ _ (by decide), e0, ms_u_r _ _ _ _ (by decide), e1, ms_u_s]
    · intro p
      rw [ms_u_r _ _ _ _ (by decide), ms_u_r _ _ _ _ (by decide), g0 18 p (by decide) (by decide) (by decide)]
    · rw [ms_u_r _ _ _ _ (by decide), ms_u_s, g0 56 0 (by decide) (by decide) (by decide)]
    · rw [ms_u_s, f40]
    · rw [e0, e1]
      exact fr_tr (fr_tr (fr_tr (fr_tr (fr_u rfl) (fr_u rfl)) (fr_u rfl)) (fr_u rfl)) (fr_u rfl)
theorem wr_140a {x y z : Int32} (h : ms_G 8 0 [.ref (ms_ad 3 0), .int x, .int y, .int z] [] (ms_Z q false I J) = some (.inr 0, ms_Z (q.1, q.2 + 1) true I J)) : ms_G 140 0 [.ref (ms_ad 3 0), .int x, .int y, .int z, .null] [] (ms_Z q false I J) = some (.inl (some (.int (nI 1))), ms_Z (q.1, q.2 + 1) true I J) := by
  simp (disch := omega) only [↓mi_140_0, ↓mi_140_1, ↓mi_140_2, ↓mi_140_3, ↓mi_140_4, ↓mi_140_4_t0, ↓mi_140_10, ↓mi_140_12, ↓mi_140_13, h]
theorem wr_140v {x y z : Int32} {w' : Bool} {I' : ms_i} {J' : ms_j} (h : ms_G 8 0 [.ref (ms_ad 3 0), .int x, .int y, .int z] [] (ms_Z q false I J) = some (.inl none, ms_Z q w' I' J')) : ms_G 140 0 [.ref (ms_ad 3 0), .int x, .int y, .int z, .null] [] (ms_Z q false I J) = some (.inl (some (.int (nI 0))), ms_Z q w' I' J') := by
  simp (disch := omega) only [↓mi_140_0, ↓mi_140_1, ↓mi_140_2, ↓mi_140_3, ↓mi_140_4, ↓mi_140_4_t0, ↓mi_140_7, ↓mi_140_14, ↓mi_140_15, cond_true, mz_clv, mz_cln, Bool.false_or, Bool.true_or, Bool.or_false, Bool.or_true, if_true, if_false, ite_self, h]
theorem iv_alt {n t g : Nat} {nm : Nat → Nat} {hd : Nat} {S T : Nat → Nat} {X : Nat → Nat → Nat} {m k i : Nat} {y : Int32} {Q : Nat → Nat} {I I' : ms_i} {J : ms_j} (h : ms_inv n t g nm hd S T X m Q I J) (hk : k < m) (hi : i < ms_wl (Q k)) (w1 : I' 18 (Q k) = upd (I 18 (Q k)) i y) (w2 : ∀ p, p ≠ Q k → I' 18 p = I 18 p) (r2 : I' 56 0 = upd (I 56 0) (70 * k + 4 + i) y) (h40 : ∀ j, j ≠ 0 → I' 40 0 j = I 40 0 j) (hf : ms_fq [18, 40, 56] I I') : ms_inv n t g nm hd S T X m Q I' J := by
  obtain ⟨hA, hS, hH, hP, hX, hI, hN, hK, hF, hR, hM, hz⟩ := h
  refine ⟨?_, ?_, ?_, ?_, hX, ?_, ?_, ?_, hF, ?_, ?_, ?_⟩
  · unfold iv_A at hA ⊢
    rw [fr_at hf 19 rfl 0, h40 1 (by decide), h40 2 (by decide), h40 3 (by decide), h40 4 (by decide), h40 23 (by decide)]
    exact hA
  · unfold iv_S at hS ⊢
    rw [fr_at hf 57 rfl 0, fr_at hf 29 rfl 0]
    exact hS
  · unfold iv_H at hH ⊢
    rw [fr_at hf 20 rfl 0, fr_at hf 50 rfl 0, fr_at hf 19 rfl 0, fr_at hf 51 rfl 0, h40 33 (by decide)]
    exact hH
  · intro u hu
    rw [fr_at hf 31 rfl u, fr_at hf 43 rfl 0, fr_at hf 44 rfl 0, fr_at hf 45 rfl 0, fr_at hf 46 rfl 0]
    exact hP u hu
  · intro u hu j hj2
    rw [fr_at hf 33 rfl u, fr_at hf 42 rfl 0]
    exact hI u hu j hj2
  · intro u hu
    rw [fr_at hf 36 rfl u, fr_at hf 47 rfl 0]
    exact hN u hu
  · intro u hu
    rw [fr_at hf 37 rfl u, fr_at hf 48 rfl 0, fr_at hf 38 rfl u, fr_at hf 49 rfl 0]
    exact hK u hu
  · intro u hu
    rw [fr_at hf 22 rfl u, fr_at hf 52 rfl 0, fr_at hf 24 rfl u, fr_at hf 53 rfl 0, fr_at hf 26 rfl u, fr_at hf 54 rfl 0, fr_at hf 28 rfl u, fr_at hf 55 rfl 0]
    exact hR u hu
  · exact ml_alt hM hk hi (by rw [fr_at hf 14 rfl 0]) (h40 20 (by decide)) (fr_at hf 16 rfl 0) w1 w2 r2
  · intro j a b
    rw [fr_at hf 6 rfl 0]
    exact hz j a b
theorem lo_alter {f : Nat → Int32} {x y z : Int32} (h : ms_iv f I J) : ∃ (q' : Nat × Nat) (k : Nat) (w1 w2 : Bool) (I1 : ms_i) (J1 : ms_j) (I2 : ms_i) (J2 : ms_j), ms_G 140 0 [.ref (ms_ad 3 0), .int x, .int y, .int z, .null] [] (ms_Z q false I J) = some (.inl (some (.int (nI k))), ms_Z q' w1 I1 J1) ∧ ms_G 55 0 [.ref (ms_ad 40 0), .int x, .int y, .int z] [] (ms_Z q' false I1 J1) = some (.inl none, ms_Z q' w2 I2 J2) ∧ I2 40 0 0 = nI k ∧ q'.1 = q.1 ∧ q'.2 ≤ q.2 + 1 ∧ I1 0 0 = f ∧ ms_iv f I2 J2 := by
  have hiv := h
  obtain ⟨h0, n, t, g, nm, hd, S, T, X, m, Q, h⟩ := h
  have hinv := h
  obtain ⟨hA, hSm, hH, hP, hX, hI, hN, hK, hF, hR, hM, hZ⟩ := h
  have m56 := hM.1
  have s14 := hM.2.1
  have s40 := hM.2.2.1
  have c1 := sp_76 (q := q) (I := I) (J := J) x (show m ≤ 5000 by omega) s14
  cases hx : ms_in x m with
  | false =>
    rw [hx] at c1
    have d1 := sp_52 (q := (q.1, q.2 + 1)) (I := I) (J := J) x m56 s40
    rw [hx, if_neg Bool.false_ne_true] at d1
    have r1 : ms_G 8 0 [.ref (ms_ad 3 0), .int x, .int y, .int z] [] (ms_Z q false I J) = some (.inr 0, ms_Z (q.1, q.2 + 1) true I J) := by
      simp (disch := omega) only [↓mi_8_0, ↓mi_8_1, ↓mi_8_4, ↓mi_8_5, ↓mi_8_8, ↓mi_8_31, cond_true, mz_clv, mz_cln, Bool.false_or, Bool.true_or, Bool.or_false, Bool.or_true, if_true, if_false, ite_self, c1, if_pos b_f]
    have r2 : ms_G 55 0 [.ref (ms_ad 40 0), .int x, .int y, .int z] [] (ms_Z (q.1, q.2 + 1) false I J) = some (.inl none, ms_Z (q.1, q.2 + 1) true (ms_u I 40 0 (upd (I 40 0) 0 (nI 1))) J) := by
      simp (disch := omega) only [↓mi_55_0, ↓mi_55_1, ↓mi_55_2, ↓mi_55_5, ↓mi_55_8, cond_true, mz_clv, mz_cln, Bool.false_or, Bool.true_or, Bool.or_false, Bool.or_true, if_true, if_false, ite_self, d1, if_pos b_f]
    exact ⟨(q.1, q.2 + 1), 1, true, true, I, J, _, J, wr_140a r1, r2, by rw [ms_u_s, pk_us], rfl, Nat.le_refl _, hiv.1, iv_code hiv _⟩
  | true =>
    obtain ⟨k, hk, rfl⟩ := in_nat (by omega) hx
    rw [hx] at c1
    obtain ⟨q1, q2, q3, q4⟩ := hM.2.2.2.1 k hk
    obtain ⟨w0, w1, w2, w3, w4⟩ := q4
    have c2 := sp_77 (q := q) (J := J) (k := k) (by omega) q1 q2
    have wl := ms_wl_le (Q k)
    cases hy : ms_in y (ms_wl (Q k)) with
    | false =>
      have hyb := in_bad (by omega) hy
      have r1 : ms_G 8 0 [.ref (ms_ad 3 0), .int (nI k), .int y, .int z] [] (ms_Z q false I J) = some (.inr 0, ms_Z (q.1, q.2 + 1) true I J) := by
        by_cases hn : y < nI 0
        · simp (disch := omega) only [↓mi_8_0, ↓mi_8_1, ↓mi_8_4, ↓mi_8_5, ↓mi_8_8, ↓mi_8_11, ↓mi_8_12, ↓mi_8_31, cond_true, mz_clv, mz_cln, Bool.false_or, Bool.true_or, Bool.or_false, Bool.or_true, if_true, if_false, ite_self, c1, if_neg b_t, if_pos hn]
        · have hl : ¬ y < nI (ms_wl (Q k)) := fun z => by
            have a := hyb.resolve_left hn
            rw [Int32.lt_iff_toInt_lt] at z
            rw [Int32.le_iff_toInt_le] at a
            omega
          simp (disch := omega) only [↓mi_8_0, ↓mi_8_1, ↓mi_8_4, ↓mi_8_5, ↓mi_8_8, ↓mi_8_11, ↓mi_8_12, ↓mi_8_15, ↓mi_8_16, ↓mi_8_17, ↓mi_8_20, ↓mi_8_21, ↓mi_8_24, ↓mi_8_27, ↓mi_8_28, ↓mi_8_31, cond_true, mz_clv, mz_cln, Bool.false_or, Bool.true_or, Bool.or_false, Bool.or_true, if_true, if_false, ite_self, o3_18, nr_18, c1, c2, if_neg b_t, if_neg hn, if_neg hl]
      have d1 := sp_52 (q := (q.1, q.2 + 1)) (I := I) (J := J) (nI k) m56 s40
      rw [hx, if_pos rfl] at d1
      obtain ⟨I0, e0⟩ : ∃ I0, I0 = ms_u I 40 0 (upd (I 40 0) 0 (nI 0)) := ⟨_, rfl⟩
      rw [← e0] at d1
      have v3 : I0 56 0 (70 * k + 3) = nI (ms_wl (Q k)) := by rw [e0, ms_u_r _ _ _ _ (by decide)]; exact w3
      have d2 := sp_19s (σ := ms_Z (q.1, q.2 + 1) false I0 J) y (m := ms_wl (Q k)) (by omega)
      rw [hy] at d2
      have r2 : ms_G 55 0 [.ref (ms_ad 40 0), .int (nI k), .int y, .int z] [] (ms_Z (q.1, q.2 + 1) false I J) = some (.inl none, ms_Z (q.1, q.2 + 1) true (ms_u I0 40 0 (upd (I0 40 0) 0 (nI 1))) J) := by
        simp (disch := omega) only [↓mi_55_0, ↓mi_55_1, ↓mi_55_2, ↓mi_55_5, ↓mi_55_9, ↓mi_55_10, ↓mi_55_11, ↓mi_55_12, ↓mi_55_13, ↓mi_55_16, ↓mi_55_18, ↓mi_55_19, ↓mi_55_20, ↓mi_55_21, ↓mi_55_22, ↓mi_55_23, ↓mi_55_24, ↓mi_55_25, ↓mi_55_28, ↓mi_55_31, ↓mi_55_32, ↓mi_55_35, ↓mi_55_36, ↓mi_55_39, ↓mi_55_40, ↓mi_55_43, ↓mi_55_63, cond_true, mz_clv, mz_cln, Bool.false_or, Bool.true_or, Bool.or_false, Bool.or_true, if_true, if_false, ite_self, ms_u_s, ms_u_r, ms_u_i, ms_u_u, o0_56, pk_us, d1, if_neg b_t, pk_mul, na_up, v3, d2, if_pos b_f, na_eq, if_neg]
      refine ⟨(q.1, q.2 + 1), 1, true, true, I, J, _, J, wr_140a r1, r2, by rw [ms_u_s, pk_us], rfl, Nat.le_refl _, hiv.1, ?_⟩
      have := iv_code (iv_code hiv (nI 0)) (nI 1)
      rw [← e0] at this
      exact this
    | true =>
      obtain ⟨i, hi, rfl⟩ := in_nat (by omega) hy
      obtain ⟨v, ev⟩ : ∃ v, v = I 18 (Q k) i ^^^ z := ⟨_, rfl⟩
      obtain ⟨I1, e1⟩ : ∃ I1, I1 = ms_u I 18 (Q k) (upd (I 18 (Q k)) i v) := ⟨_, rfl⟩
      have g1 : ∀ r u, r ≠ 18 → I1 r u = I r u := fun r u x => by rw [e1, ms_u_r _ _ _ _ x]
      have oo := o0_18 (q := q.1) q1 hi
      have r1 : ms_G 8 0 [.ref (ms_ad 3 0), .int (nI k), .int (nI i), .int z] [] (ms_Z q false I J) = some (.inl none, ms_Z q true I1 J) := by
        simp (disch := omega) only [↓mi_8_0, ↓mi_8_1, ↓mi_8_4, ↓mi_8_5, ↓mi_8_8, ↓mi_8_11, ↓mi_8_12, ↓mi_8_15, ↓mi_8_16, ↓mi_8_17, ↓mi_8_20, ↓mi_8_21, ↓mi_8_24, ↓mi_8_27, ↓mi_8_28, ↓mi_8_39, ↓mi_8_40, ↓mi_8_43, ↓mi_8_44, ↓mi_8_47, ↓mi_8_50, ↓mi_8_51, ↓mi_8_52, ↓mi_8_53, ↓mi_8_54, ↓mi_8_55, ↓mi_8_56, cond_true, mz_clv, mz_cln, Bool.false_or, Bool.true_or, Bool.or_false, Bool.or_true, if_true, if_false, ite_self, o3_18, oo, nr_18, c1, c2, if_neg b_t, na_lt, if_neg, if_pos, ← ev, ← e1]
      have d1 := sp_52 (q := q) (I := I1) (J := J) (nI k) m56 (by rw [g1 40 0 (by decide)]; exact s40)
      rw [hx, if_pos rfl] at d1
      obtain ⟨I0, e0⟩ : ∃ I0, I0 = ms_u I1 40 0 (upd (I1 40 0) 0 (nI 0)) := ⟨_, rfl⟩
      rw [← e0] at d1
      have y56 : I0 56 0 = I 56 0 := by rw [e0, ms_u_r _ _ _ _ (by decide), g1 56 0 (by decide)]
      have v3 : I0 56 0 (70 * k + 3) = nI (ms_wl (Q k)) := by rw [y56]; exact w3
      have v4 : I0 56 0 (70 * k + 4 + i) = I 18 (Q k) i := by rw [y56]; exact w4 i hi
      have d2 := sp_19s (σ := ms_Z q false I0 J) (nI i) (m := ms_wl (Q k)) (by omega)
      rw [hy] at d2
      obtain ⟨Ia, ea⟩ : ∃ Ia, Ia = ms_u I0 40 0 (upd (I0 40 0) 0 (nI 0)) := ⟨_, rfl⟩
      have z56 : Ia 56 0 = I 56 0 := by rw [ea, ms_u_r _ _ _ _ (by decide), y56]
      have z40 : Ia 40 0 0 = nI 0 := by rw [ea, ms_u_s, pk_us]
      have z4 : Ia 56 0 (70 * k + 4 + i) = I 18 (Q k) i := by rw [z56]; exact w4 i hi
      have r2 : ms_G 55 0 [.ref (ms_ad 40 0), .int (nI k), .int (nI i), .int z] [] (ms_Z q false I1 J) = some (.inl none, ms_Z q true (ms_u Ia 56 0 (upd (Ia 56 0) (70 * k + 4 + i) v)) J) := by
        simp (disch := omega) only [↓mi_55_0, ↓mi_55_1, ↓mi_55_2, ↓mi_55_5, ↓mi_55_9, ↓mi_55_10, ↓mi_55_11, ↓mi_55_12, ↓mi_55_13, ↓mi_55_16, ↓mi_55_18, ↓mi_55_19, ↓mi_55_20, ↓mi_55_21, ↓mi_55_22, ↓mi_55_23, ↓mi_55_24, ↓mi_55_25, ↓mi_55_28, ↓mi_55_31, ↓mi_55_32, ↓mi_55_35, ↓mi_55_36, cond_true, mz_clv, mz_cln, Bool.false_or, Bool.true_or, Bool.or_false, Bool.or_true, if_true, if_false, ite_self, o0_56, d1, if_neg b_t, pk_mul, na_up, v3, d2, ← ea]
        simp (disch := omega) only [↓mi_55_39, ↓mi_55_40, ↓mi_55_43, ↓mi_55_46, ↓mi_55_47, ↓mi_55_50, ↓mi_55_52, ↓mi_55_53, ↓mi_55_54, ↓mi_55_55, ↓mi_55_56, ↓mi_55_57, ↓mi_55_58, ↓mi_55_59, ↓mi_55_60, ↓mi_55_61, ↓mi_55_62, ↓mi_55_63, cond_true, mz_clv, mz_cln, Bool.false_or, Bool.true_or, Bool.or_false, Bool.or_true, if_true, if_false, ite_self, o0_56, pk_mul, na_up, z40, z4, na_eq, if_pos, ← ev]
      refine ⟨q, 0, true, true, _, J, _, J, wr_140v r1, r2, ?_, rfl, by omega, by rw [g1 0 0 (by decide)]; exact h0, ?_, n, t, g, nm, hd, S, T, X, m, Q, iv_alt hinv hk hi (y := v) ?_ ?_ ?_ ?_ ?_⟩
      · rw [ms_u_r _ _ _ _ (by decide), z40]
      · rw [ms_u_r _ _ _ _ (by decide), ea, ms_u_r _ _ _ _ (by decide), e0, ms_u_r _ _ _ _ (by decide), g1 0 0 (by decide)]
        exact h0
      · rw [ms_u_r _ _ _ _ (by decide), ea, ms_u_r _ _ _ _ (by decide), e0, ms_u_r _ _ _ _ (by decide), e1, ms_u_s]
      · intro p hp
        rw [ms_u_r _ _ _ _ (by decide), ea, ms_u_r _ _ _ _ (by decide), e0, ms_u_r _ _ _ _ (by decide), e1, ms_u_i _ _ _ _ hp]
      · rw [ms_u_s, z56]
      · intro j hj
        rw [ms_u_r _ _ _ _ (by decide), ea, ms_u_s, pk_un hj, e0, ms_u_s, pk_un hj, g1 40 0 (by decide)]
      · rw [ea, e0, e1]
        exact fr_tr (fr_tr (fr_tr (fr_u rfl) (fr_u rfl)) (fr_u rfl)) (fr_u rfl)
theorem sp_83 {p i : Nat} (hp : p < 56) (hi : i < 4 + ms_wl p) : ms_G 83 0 [.ref (ms_ad 17 p), .int (nI i)] [] (ms_Z q false I J) = some (.inl (some (.int (if i = 0 then nI (ms_sv 0 p) else if i = 1 then nI (ms_sv 1 p) else if i = 2 then nI (ms_sv 2 p) else if i = 3 then nI (ms_wl p) else I 18 p (i - 4)))), ms_Z q false I J) := by
  have wl := ms_wl_le p
  by_cases h0 : i = 0
  · subst h0
    simp (disch := omega) only [↓mi_83_0, ↓mi_83_1_c0, ↓mi_83_1_c1, ↓mi_83_1_c2, ↓mi_83_1_c3, ↓mi_83_1_d, ↓mi_83_32, ↓mi_83_33, ↓mi_83_36, cond_true, mz_clv, mz_cln, Bool.false_or, Bool.true_or, Bool.or_false, Bool.or_true, if_true, if_false, ite_self, if_pos]
  · by_cases h1 : i = 1
    · subst h1
      simp (disch := omega) only [↓mi_83_0, ↓mi_83_1_c0, ↓mi_83_1_c1, ↓mi_83_1_c2, ↓mi_83_1_c3, ↓mi_83_1_d, ↓mi_83_37, ↓mi_83_38, ↓mi_83_41, cond_true, mz_clv, mz_cln, Bool.false_or, Bool.true_or, Bool.or_false, Bool.or_true, if_true, if_false, ite_self, if_neg, if_pos]
    · by_cases h2 : i = 2
      · subst h2
        have : ms_sv 2 p = 0 ∨ ms_sv 2 p = 1 := by
          unfold ms_sv
          rw [if_neg (by decide), if_neg (by decide), if_pos rfl]
          split
          · exact Or.inl rfl
          · exact Or.inr rfl
        rcases this with h | h
        · simp (disch := omega) only [↓mi_83_0, ↓mi_83_1_c0, ↓mi_83_1_c1, ↓mi_83_1_c2, ↓mi_83_1_c3, ↓mi_83_1_d, ↓mi_83_42, ↓mi_83_43, ↓mi_83_46, ↓mi_83_49, ↓mi_83_50, ↓mi_83_53, ↓mi_83_54, cond_true, mz_clv, mz_cln, Bool.false_or, Bool.true_or, Bool.or_false, Bool.or_true, if_true, if_false, ite_self, if_neg, if_pos, h, na_eq]
        · simp (disch := omega) only [↓mi_83_0, ↓mi_83_1_c0, ↓mi_83_1_c1, ↓mi_83_1_c2, ↓mi_83_1_c3, ↓mi_83_1_d, ↓mi_83_42, ↓mi_83_43, ↓mi_83_46, ↓mi_83_49, ↓mi_83_50, ↓mi_83_53, ↓mi_83_54, cond_true, mz_clv, mz_cln, Bool.false_or, Bool.true_or, Bool.or_false, Bool.or_true, if_true, if_false, ite_self, if_neg, if_pos, h, na_eq]
      · by_cases h3 : i = 3
        · subst h3
          simp (disch := omega) only [↓mi_83_0, ↓mi_83_1_c0, ↓mi_83_1_c1, ↓mi_83_1_c2, ↓mi_83_1_c3, ↓mi_83_1_d, ↓mi_83_55, ↓mi_83_56, ↓mi_83_59, ↓mi_83_60, cond_true, mz_clv, mz_cln, Bool.false_or, Bool.true_or, Bool.or_false, Bool.or_true, if_true, if_false, ite_self, o3_18, nr_18, if_neg, if_pos]
        · have d : ∀ L S σ, ms_G 83 1 L (.int (nI i) :: S) σ = ms_G 83 61 L S σ := fun L S σ => mi_83_1_d (by rw [nI_toInt (by omega)]; omega)
          have oo := o0_18 (q := q.1) (p := p) (i := i - 4) hp (by omega)
          simp (disch := omega) only [mi_83_0, d, ↓mi_83_61, ↓mi_83_62, ↓mi_83_65, ↓mi_83_66, ↓mi_83_67, ↓mi_83_68, ↓mi_83_69, cond_true, mz_clv, mz_cln, Bool.false_or, Bool.true_or, Bool.or_false, Bool.or_true, if_true, if_false, ite_self, pk_sub, oo, if_neg]
theorem wr_141a {x y : Int32} (h : ms_G 9 0 [.ref (ms_ad 3 0), .int x, .int y] [] (ms_Z q false I J) = some (.inr 0, ms_Z (q.1, q.2 + 1) true I J)) : ms_G 141 0 [.ref (ms_ad 3 0), .int x, .int y, .ref (ms_ad 66 0), .null] [] (ms_Z q false I J) = some (.inl (some (.int (nI 1))), ms_Z (q.1, q.2 + 1) true I J) := by
  simp (disch := omega) only [↓mi_141_0, ↓mi_141_1, ↓mi_141_2, ↓mi_141_3, ↓mi_141_4, ↓mi_141_5, ↓mi_141_5_t0, ↓mi_141_13, ↓mi_141_15, ↓mi_141_16, h]
theorem wr_141v {x y v : Int32} {w' : Bool} {I' : ms_i} {J' : ms_j} (h : ms_G 9 0 [.ref (ms_ad 3 0), .int x, .int y] [] (ms_Z q false I J) = some (.inl (some (.int v)), ms_Z q w' I' J')) : ms_G 141 0 [.ref (ms_ad 3 0), .int x, .int y, .ref (ms_ad 66 0), .null] [] (ms_Z q false I J) = some (.inl (some (.int (nI 0))), ms_Z q true I' (ms_u J' 66 0 (vp_updL (J' 66 0) 0 v.toInt64))) := by
  simp (disch := omega) only [↓mi_141_0, ↓mi_141_1, ↓mi_141_2, ↓mi_141_3, ↓mi_141_4, ↓mi_141_5, ↓mi_141_5_t0, ↓mi_141_8, ↓mi_141_9, ↓mi_141_10, ↓mi_141_17, ↓mi_141_18, cond_true, mz_clv, mz_cln, Bool.false_or, Bool.true_or, Bool.or_false, Bool.or_true, if_true, if_false, ite_self, o1_66, h]
theorem lo_message {f : Nat → Int32} {x y : Int32} (h : ms_iv f I J) : ∃ (q' : Nat × Nat) (k : Nat) (v : Int32) (w1 w2 : Bool) (I1 : ms_i) (J1 : ms_j) (I2 : ms_i) (J2 : ms_j), ms_G 141 0 [.ref (ms_ad 3 0), .int x, .int y, .ref (ms_ad 66 0), .null] [] (ms_Z q false I J) = some (.inl (some (.int (nI k))), ms_Z q' w1 I1 J1) ∧ ms_G 56 0 [.ref (ms_ad 40 0), .int x, .int y] [] (ms_Z q' false I1 J1) = some (.inl (some (.int v)), ms_Z q' w2 I2 J2) ∧ I2 40 0 0 = nI k ∧ k < 3 ∧ (k = 0 → J2 66 0 0 = v.toInt64) ∧ q'.1 = q.1 ∧ q'.2 ≤ q.2 + 1 ∧ I1 0 0 = f ∧ ms_iv f I2 J2 := by
  have hiv := h
  obtain ⟨h0, n, t, g, nm, hd, S, T, X, m, Q, h⟩ := h
  obtain ⟨hA, hSm, hH, hP, hX, hI, hN, hK, hF, hR, hM, hZ⟩ := h
  have m56 := hM.1
  have s14 := hM.2.1
  have s40 := hM.2.2.1
  have c1 := sp_76 (q := q) (I := I) (J := J) x (show m ≤ 5000 by omega) s14
  cases hx : ms_in x m with
  | false =>
    rw [hx] at c1
    have d1 := sp_52 (q := (q.1, q.2 + 1)) (I := I) (J := J) x m56 s40
    rw [hx, if_neg Bool.false_ne_true] at d1
    have r1 : ms_G 9 0 [.ref (ms_ad 3 0), .int x, .int y] [] (ms_Z q false I J) = some (.inr 0, ms_Z (q.1, q.2 + 1) true I J) := by
      simp (disch := omega) only [↓mi_9_0, ↓mi_9_1, ↓mi_9_4, ↓mi_9_5, ↓mi_9_8, ↓mi_9_33, cond_true, mz_clv, mz_cln, Bool.false_or, Bool.true_or, Bool.or_false, Bool.or_true, if_true, if_false, ite_self, c1, if_pos b_f]
    have r2 : ms_G 56 0 [.ref (ms_ad 40 0), .int x, .int y] [] (ms_Z (q.1, q.2 + 1) false I J) = some (.inl (some (.int (nI 0))), ms_Z (q.1, q.2 + 1) true (ms_u I 40 0 (upd (I 40 0) 0 (nI 1))) J) := by
      simp (disch := omega) only [↓mi_56_0, ↓mi_56_1, ↓mi_56_2, ↓mi_56_5, ↓mi_56_8, ↓mi_56_9, cond_true, mz_clv, mz_cln, Bool.false_or, Bool.true_or, Bool.or_false, Bool.or_true, if_true, if_false, ite_self, d1, if_pos b_f]
    exact ⟨(q.1, q.2 + 1), 1, nI 0, true, true, I, J, _, J, wr_141a r1, r2, by rw [ms_u_s, pk_us], by decide, fun z => absurd z (by decide), rfl, Nat.le_refl _, hiv.1, iv_code hiv _⟩
  | true =>
    obtain ⟨k, hk, rfl⟩ := in_nat (by omega) hx
    rw [hx] at c1
    obtain ⟨q1, q2, q3, q4⟩ := hM.2.2.2.1 k hk
    obtain ⟨w0, w1, w2, w3, w4⟩ := q4
    have c2 := sp_77 (q := q) (J := J) (k := k) (by omega) q1 q2
    have wl := ms_wl_le (Q k)
    cases hy : ms_in y (4 + ms_wl (Q k)) with
    | false =>
      have hyb := in_bad (by omega) hy
      have r1 : ms_G 9 0 [.ref (ms_ad 3 0), .int (nI k), .int y] [] (ms_Z q false I J) = some (.inr 0, ms_Z (q.1, q.2 + 1) true I J) := by
        by_cases hn : y < nI 0
        · simp (disch := omega) only [↓mi_9_0, ↓mi_9_1, ↓mi_9_4, ↓mi_9_5, ↓mi_9_8, ↓mi_9_11, ↓mi_9_12, ↓mi_9_33, cond_true, mz_clv, mz_cln, Bool.false_or, Bool.true_or, Bool.or_false, Bool.or_true, if_true, if_false, ite_self, c1, if_neg b_t, if_pos hn]
        · have hl : ¬ y < nI (4 + ms_wl (Q k)) := fun z => by
            have a := hyb.resolve_left hn
            rw [Int32.lt_iff_toInt_lt] at z
            rw [Int32.le_iff_toInt_le] at a
            omega
          simp (disch := omega) only [↓mi_9_0, ↓mi_9_1, ↓mi_9_4, ↓mi_9_5, ↓mi_9_8, ↓mi_9_11, ↓mi_9_12, ↓mi_9_15, ↓mi_9_16, ↓mi_9_17, ↓mi_9_18, ↓mi_9_21, ↓mi_9_22, ↓mi_9_25, ↓mi_9_28, ↓mi_9_29, ↓mi_9_30, ↓mi_9_33, cond_true, mz_clv, mz_cln, Bool.false_or, Bool.true_or, Bool.or_false, Bool.or_true, if_true, if_false, ite_self, o3_18, nr_18, c1, c2, na_up, if_neg b_t, if_neg hn, if_neg hl]
      have d1 := sp_52 (q := (q.1, q.2 + 1)) (I := I) (J := J) (nI k) m56 s40
      rw [hx, if_pos rfl] at d1
      obtain ⟨I0, e0⟩ : ∃ I0, I0 = ms_u I 40 0 (upd (I 40 0) 0 (nI 0)) := ⟨_, rfl⟩
      rw [← e0] at d1
      have v3 : I0 56 0 (70 * k + 3) = nI (ms_wl (Q k)) := by rw [e0, ms_u_r _ _ _ _ (by decide)]; exact w3
      have d2 := sp_19c (σ := ms_Z (q.1, q.2 + 1) false I0 J) y (m := 3 + ms_wl (Q k)) (by omega)
      rw [show 3 + ms_wl (Q k) + 1 = 4 + ms_wl (Q k) by omega, hy] at d2
      have r2 : ms_G 56 0 [.ref (ms_ad 40 0), .int (nI k), .int y] [] (ms_Z (q.1, q.2 + 1) false I J) = some (.inl (some (.int (nI 0))), ms_Z (q.1, q.2 + 1) true (ms_u I0 40 0 (upd (I0 40 0) 0 (nI 1))) J) := by
        simp (disch := omega) only [↓mi_56_0, ↓mi_56_1, ↓mi_56_2, ↓mi_56_5, ↓mi_56_10, ↓mi_56_11, ↓mi_56_12, ↓mi_56_13, ↓mi_56_14, ↓mi_56_15, ↓mi_56_18, ↓mi_56_20, ↓mi_56_21, ↓mi_56_22, ↓mi_56_23, ↓mi_56_24, ↓mi_56_25, ↓mi_56_26, ↓mi_56_29, ↓mi_56_32, ↓mi_56_33, ↓mi_56_36, ↓mi_56_37, ↓mi_56_40, ↓mi_56_41, ↓mi_56_44, ↓mi_56_47, ↓mi_56_48, ↓mi_56_62, cond_true, mz_clv, mz_cln, Bool.false_or, Bool.true_or, Bool.or_false, Bool.or_true, if_true, if_false, ite_self, ms_u_s, ms_u_r, ms_u_i, ms_u_u, o0_56, pk_us, d1, if_neg b_t, pk_mul, na_up, v3, d2, if_pos b_f, na_le, if_neg]
      refine ⟨(q.1, q.2 + 1), 1, nI 0, true, true, I, J, _, J, wr_141a r1, r2, by rw [ms_u_s, pk_us], by decide, fun z => absurd z (by decide), rfl, Nat.le_refl _, hiv.1, ?_⟩
      have := iv_code (iv_code hiv (nI 0)) (nI 1)
      rw [← e0] at this
      exact this
    | true =>
      obtain ⟨i, hi, rfl⟩ := in_nat (by omega) hy
      have c3 := sp_83 (q := q) (I := I) (J := J) q1 hi
      obtain ⟨v, ev⟩ : ∃ v, v = (if i = 0 then nI (ms_sv 0 (Q k)) else if i = 1 then nI (ms_sv 1 (Q k)) else if i = 2 then nI (ms_sv 2 (Q k)) else if i = 3 then nI (ms_wl (Q k)) else I 18 (Q k) (i - 4)) := ⟨_, rfl⟩
      rw [← ev] at c3
      have v4 : I 56 0 (70 * k + i) = v := by
        rw [ev]
        by_cases h0 : i = 0
        · rw [if_pos h0, h0, Nat.add_zero]; exact w0
        · rw [if_neg h0]
          by_cases h1 : i = 1
          · rw [if_pos h1, h1]; exact w1
          · rw [if_neg h1]
            by_cases h2 : i = 2
            · rw [if_pos h2, h2]; exact w2
            · rw [if_neg h2]
              by_cases h3 : i = 3
              · rw [if_pos h3, h3]; exact w3
              · rw [if_neg h3, ← w4 (i - 4) (by omega)]
                congr 1
                omega
      have r1 : ms_G 9 0 [.ref (ms_ad 3 0), .int (nI k), .int (nI i)] [] (ms_Z q false I J) = some (.inl (some (.int v)), ms_Z q false I J) := by
        simp (disch := omega) only [↓mi_9_0, ↓mi_9_1, ↓mi_9_4, ↓mi_9_5, ↓mi_9_8, ↓mi_9_11, ↓mi_9_12, ↓mi_9_15, ↓mi_9_16, ↓mi_9_17, ↓mi_9_18, ↓mi_9_21, ↓mi_9_22, ↓mi_9_25, ↓mi_9_28, ↓mi_9_29, ↓mi_9_30, ↓mi_9_41, ↓mi_9_42, ↓mi_9_45, ↓mi_9_46, ↓mi_9_49, ↓mi_9_50, ↓mi_9_53, cond_true, mz_clv, mz_cln, Bool.false_or, Bool.true_or, Bool.or_false, Bool.or_true, if_true, if_false, ite_self, o3_18, nr_18, c1, c2, na_up, if_neg b_t, na_lt, if_neg, if_pos, c3]
      obtain ⟨J1, ej⟩ : ∃ J1, J1 = ms_u J 66 0 (vp_updL (J 66 0) 0 v.toInt64) := ⟨_, rfl⟩
      have v1 := wr_141v r1
      rw [← ej] at v1
      have d1 := sp_52 (q := q) (I := I) (J := J1) (nI k) m56 s40
      rw [hx, if_pos rfl] at d1
      obtain ⟨I0, e0⟩ : ∃ I0, I0 = ms_u I 40 0 (upd (I 40 0) 0 (nI 0)) := ⟨_, rfl⟩
      rw [← e0] at d1
      have y56 : I0 56 0 = I 56 0 := by rw [e0, ms_u_r _ _ _ _ (by decide)]
      have v3 : I0 56 0 (70 * k + 3) = nI (ms_wl (Q k)) := by rw [y56]; exact w3
      have d2 := sp_19c (σ := ms_Z q false I0 J1) (nI i) (m := 3 + ms_wl (Q k)) (by omega)
      rw [show 3 + ms_wl (Q k) + 1 = 4 + ms_wl (Q k) by omega, hy] at d2
      obtain ⟨Ia, ea⟩ : ∃ Ia, Ia = ms_u I0 40 0 (upd (I0 40 0) 0 (nI 0)) := ⟨_, rfl⟩
      have z4 : Ia 56 0 (70 * k + i) = v := by rw [ea, ms_u_r _ _ _ _ (by decide), y56]; exact v4
      have z40 : Ia 40 0 0 = nI 0 := by rw [ea, ms_u_s, pk_us]
      have r2 : ms_G 56 0 [.ref (ms_ad 40 0), .int (nI k), .int (nI i)] [] (ms_Z q false I J1) = some (.inl (some (.int v)), ms_Z q true Ia J1) := by
        simp (disch := omega) only [↓mi_56_0, ↓mi_56_1, ↓mi_56_2, ↓mi_56_5, ↓mi_56_10, ↓mi_56_11, ↓mi_56_12, ↓mi_56_13, ↓mi_56_14, ↓mi_56_15, ↓mi_56_18, ↓mi_56_20, ↓mi_56_21, ↓mi_56_22, ↓mi_56_23, ↓mi_56_24, ↓mi_56_25, ↓mi_56_26, ↓mi_56_29, ↓mi_56_32, ↓mi_56_33, ↓mi_56_36, ↓mi_56_37, cond_true, mz_clv, mz_cln, Bool.false_or, Bool.true_or, Bool.or_false, Bool.or_true, if_true, if_false, ite_self, o0_56, d1, if_neg b_t, pk_mul, na_up, v3, d2, ← ea]
        simp (disch := omega) only [↓mi_56_40, ↓mi_56_41, ↓mi_56_44, ↓mi_56_51, ↓mi_56_52, ↓mi_56_55, ↓mi_56_57, ↓mi_56_58, ↓mi_56_59, ↓mi_56_60, ↓mi_56_61, ↓mi_56_62, cond_true, mz_clv, mz_cln, Bool.false_or, Bool.true_or, Bool.or_false, Bool.or_true, if_true, if_false, ite_self, o0_56, pk_mul, na_up, z40, z4, na_le, if_pos]
      refine ⟨q, 0, v, true, true, _, J1, Ia, J1, v1, r2, z40, by decide, fun _ => by rw [ej, ms_u_s, pk_uLs], rfl, by omega, hiv.1, ?_⟩
      have := iv_code (iv_code (iv_out hiv (vp_updL (J 66 0) 0 v.toInt64)) (nI 0)) (nI 0)
      rw [← ej, ← e0, ← ea] at this
      exact this
end Few
