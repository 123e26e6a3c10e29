/-! AN ANSWER IS TAKEN. -/
theorem sub1_eq {s S : Nat} (hs : s < 1000) (hS : S < 1000) : (nI s = nI S - nI 1) = (s + 1 = S) := propext ⟨fun h => by
  have := congrArg Int32.toInt h
  rw [nI_toInt (by omega), pk_sub_toInt (by omega) (by omega)] at this
  omega, fun h => by
  subst h
  rw [pk_sub (by omega)]
  rfl⟩
theorem na_eq0 {a : Nat} (ha : a < 4294967296) : (nI a = nI 0) = (a = 0) := propext ⟨fun h => by
  have := congrArg mU h
  rw [mU_nI ha, mU_nI (by decide)] at this
  exact this, fun h => by rw [h]⟩
theorem dv_0 {a b : Nat} (hb : 0 < b) : (a / b = 0) = (a < b) := propext ⟨fun h => by
  rcases Nat.lt_or_ge a b with h1 | h1
  · exact h1
  · have := Nat.div_pos h1 hb
    omega, fun h => Nat.div_eq_of_lt h⟩
theorem sar_0 {x : Int32} {n : Nat} (hn : n ≤ 8) : (x >>> (nI n &&& 31) = nI 0) = (mU x < 2 ^ n) := by
  have p := p2_8 hn
  have l := mU_lt x
  by_cases h31 : mU x < 2147483648
  · have e : x >>> (nI n &&& 31) = nI (mU x / 2 ^ n) := by
      have := na_shr (n := mU x) (k := n) h31 (by omega)
      rw [nI_mU] at this
      exact this
    have d : mU x / 2 ^ n ≤ mU x := Nat.div_le_self _ _
    rw [e, na_eq0 (by omega), dv_0 (Nat.two_pow_pos n)]
  · refine propext ⟨fun h => ?_, fun h => by omega⟩
    exfalso
    have h2 := b_sshr n (by omega) x (i := 31) (by decide)
    rw [h] at h2
    have h3 : (if n + 31 < 32 then bt x (n + 31) else bt x 31) = bt x 31 := by
      by_cases h0 : n + 31 < 32
      · rw [if_pos h0, show n + 31 = 31 by omega]
      · rw [if_neg h0]
    rw [h3, show bt (nI 0) 31 = false from by decide] at h2
    have h4 : bt x 31 = true := by
      show x.toBitVec.toNat.testBit 31 = true
      rw [Nat.testBit_eq_decide_div_mod_eq]
      have e : x.toBitVec.toNat = mU x := rfl
      rw [e]
      exact decide_eq_true (by omega)
    rw [h4] at h2
    cases h2
theorem wl_pos {u s : Nat} (hs : s < 3) : 0 < ms_wl (7 * u + 4 + s) := by
  unfold ms_wl
  have : (7 * u + 4 + s) % 7 = 4 ∨ (7 * u + 4 + s) % 7 = 5 ∨ (7 * u + 4 + s) % 7 = 6 := by omega
  rcases this with h | h | h <;> rw [h] <;> decide
def ms_gd (n t s u : Nat) (x y : Int32) : Bool := decide (mU x < 2 ^ n) && (decide (t ≤ ms_pc (mU x)) && ((decide (s = 2) || ms_bit x u) && (decide (s = 0) || decide (x &&& (y ^^^ -1) = nI 0))))
section Ans
variable {q : Nat × Nat} {w : Bool} {I : ms_i} {J : ms_j} {σ : ms_M}
theorem sp_96 {u s n t : Nat} {x : Int32} (hu : u < 8) (hs : s < 3) (hn : n ≤ 8) (ht : t ≤ 8) : ms_G 96 0 [.ref (ms_ad 31 u), .int x, .int (nI s), .int (nI n), .int (nI t)] [] (ms_Z q false I J) = some (.inl (some (.int (ms_b (ms_gd n t s u x (I 36 u (s - 1)))))), ms_Z q false I J) := by
  have l := mU_lt x
  have d : mU x / 2 ^ n ≤ mU x := Nat.div_le_self _ _
  have e1 := na_ushrU x (k := n) (by omega)
  have e2 := na_eq0 (a := mU x / 2 ^ n) (by omega)
  rw [dv_0 (Nat.two_pow_pos n)] at e2
  unfold ms_gd
  by_cases h1 : mU x < 2 ^ n
  · rw [decide_eq_true h1, Bool.true_and]
    have p := p2_8 hn
    have hb := sp_146 (σ := ms_Z q false I J) (n := mU x) (by omega)
    rw [nI_mU] at hb
    have pl := pc_le (mU x)
    by_cases h2 : t ≤ ms_pc (mU x)
    · rw [decide_eq_true h2, Bool.true_and]
      have c3 : s = 0 ∨ s = 1 ∨ s = 2 := by omega
      rcases c3 with h | h | h
      · subst h
        rw [decide_eq_false (by decide), decide_eq_true rfl, Bool.false_or, Bool.true_or, Bool.and_true]
        cases hc : ms_bit x u with
        | true =>
          simp (disch := omega) only [↓mi_96_0, ↓mi_96_1, ↓mi_96_2, ↓mi_96_3, ↓mi_96_6, ↓mi_96_7, ↓mi_96_10, ↓mi_96_12, ↓mi_96_15, ↓mi_96_16, ↓mi_96_16_1, ↓mi_96_16_b, ↓mi_96_17, ↓mi_96_18, ↓mi_96_19, ↓mi_96_22, ↓mi_96_23, ↓mi_96_24, ↓mi_96_27, ↓mi_96_30, ↓mi_96_33, ↓mi_96_34, ↓mi_96_34_1, ↓mi_96_34_b, ↓mi_96_35, ↓mi_96_36, ↓mi_96_54, ↓mi_96_55, ↓mi_96_58, ↓mi_96_59, ↓mi_96_59_1, ↓mi_96_59_b, cond_true, mz_clv, mz_cln, Bool.false_or, Bool.true_or, Bool.or_false, Bool.or_true, if_true, if_false, ite_self, e1, e2, if_pos h1, hb, na_le, na_eq, if_pos, if_neg, sv_3, sp_15, hc, if_neg b_t]
          rfl
        | false =>
          simp (disch := omega) only [↓mi_96_0, ↓mi_96_1, ↓mi_96_2, ↓mi_96_3, ↓mi_96_6, ↓mi_96_7, ↓mi_96_10, ↓mi_96_12, ↓mi_96_15, ↓mi_96_16, ↓mi_96_16_1, ↓mi_96_16_b, ↓mi_96_17, ↓mi_96_18, ↓mi_96_19, ↓mi_96_22, ↓mi_96_23, ↓mi_96_24, ↓mi_96_27, ↓mi_96_30, ↓mi_96_33, ↓mi_96_34, ↓mi_96_34_1, ↓mi_96_34_b, cond_true, mz_clv, mz_cln, Bool.false_or, Bool.true_or, Bool.or_false, Bool.or_true, if_true, if_false, ite_self, e1, e2, if_pos h1, hb, na_le, na_eq, if_pos, if_neg, sv_3, sp_15, hc, if_pos b_f]
          rfl
      · subst h
        rw [decide_eq_false (by decide), decide_eq_false (by decide), Bool.false_or, Bool.false_or]
        cases hc : ms_bit x u with
        | true =>
          rw [Bool.true_and]
          by_cases h4 : x &&& (I 36 u (1 - 1) ^^^ -1) = nI 0
          · rw [decide_eq_true h4]
            simp (disch := omega) only [↓mi_96_0, ↓mi_96_1, ↓mi_96_2, ↓mi_96_3, ↓mi_96_6, ↓mi_96_7, ↓mi_96_10, ↓mi_96_12, ↓mi_96_15, ↓mi_96_16, ↓mi_96_16_1, ↓mi_96_16_b, ↓mi_96_17, ↓mi_96_18, ↓mi_96_19, ↓mi_96_22, ↓mi_96_23, ↓mi_96_24, ↓mi_96_27, ↓mi_96_30, ↓mi_96_33, ↓mi_96_34, ↓mi_96_34_1, ↓mi_96_34_b, ↓mi_96_35, ↓mi_96_36, ↓mi_96_39, ↓mi_96_40, ↓mi_96_41, ↓mi_96_44, ↓mi_96_45, ↓mi_96_46, ↓mi_96_47, ↓mi_96_48, ↓mi_96_49, ↓mi_96_50, ↓mi_96_51, ↓mi_96_54, ↓mi_96_55, ↓mi_96_58, ↓mi_96_59, ↓mi_96_59_1, ↓mi_96_59_b, cond_true, mz_clv, mz_cln, Bool.false_or, Bool.true_or, Bool.or_false, Bool.or_true, if_true, if_false, ite_self, o0_36, e1, e2, if_pos h1, hb, na_le, na_eq, pk_sub, if_pos, if_neg, sv_3, sp_15, hc, if_neg b_t, if_pos h4]
            rfl
          · rw [decide_eq_false h4]
            simp (disch := omega) only [↓mi_96_0, ↓mi_96_1, ↓mi_96_2, ↓mi_96_3, ↓mi_96_6, ↓mi_96_7, ↓mi_96_10, ↓mi_96_12, ↓mi_96_15, ↓mi_96_16, ↓mi_96_16_1, ↓mi_96_16_b, ↓mi_96_17, ↓mi_96_18, ↓mi_96_19, ↓mi_96_22, ↓mi_96_23, ↓mi_96_24, ↓mi_96_27, ↓mi_96_30, ↓mi_96_33, ↓mi_96_34, ↓mi_96_34_1, ↓mi_96_34_b, ↓mi_96_35, ↓mi_96_36, ↓mi_96_39, ↓mi_96_40, ↓mi_96_41, ↓mi_96_44, ↓mi_96_45, ↓mi_96_46, ↓mi_96_47, ↓mi_96_48, ↓mi_96_49, ↓mi_96_50, ↓mi_96_51, ↓mi_96_54, ↓mi_96_55, ↓mi_96_58, ↓mi_96_59, ↓mi_96_59_1, ↓mi_96_59_b, cond_true, mz_clv, mz_cln, Bool.false_or, Bool.true_or, Bool.or_false, Bool.or_true, if_true, if_false, ite_self, o0_36, e1, e2, if_pos h1, hb, na_le, na_eq, pk_sub, if_pos, if_neg, sv_3, sp_15, hc, if_neg b_t, if_neg h4]
            rfl
        | false =>
          rw [Bool.false_and]
          simp (disch := omega) only [↓mi_96_0, ↓mi_96_1, ↓mi_96_2, ↓mi_96_3, ↓mi_96_6, ↓mi_96_7, ↓mi_96_10, ↓mi_96_12, ↓mi_96_15, ↓mi_96_16, ↓mi_96_16_1, ↓mi_96_16_b, ↓mi_96_17, ↓mi_96_18, ↓mi_96_19, ↓mi_96_22, ↓mi_96_23, ↓mi_96_24, ↓mi_96_27, ↓mi_96_30, ↓mi_96_33, ↓mi_96_34, ↓mi_96_34_1, ↓mi_96_34_b, cond_true, mz_clv, mz_cln, Bool.false_or, Bool.true_or, Bool.or_false, Bool.or_true, if_true, if_false, ite_self, e1, e2, if_pos h1, hb, na_le, na_eq, if_pos, if_neg, sv_3, sp_15, hc, if_pos b_f]
          rfl
      · subst h
        rw [decide_eq_true rfl, decide_eq_false (by decide), Bool.true_or, Bool.false_or, Bool.true_and]
        by_cases h4 : x &&& (I 36 u (2 - 1) ^^^ -1) = nI 0
        · rw [decide_eq_true h4]
          simp (disch := omega) only [↓mi_96_0, ↓mi_96_1, ↓mi_96_2, ↓mi_96_3, ↓mi_96_6, ↓mi_96_7, ↓mi_96_10, ↓mi_96_12, ↓mi_96_15, ↓mi_96_16, ↓mi_96_16_1, ↓mi_96_16_b, ↓mi_96_17, ↓mi_96_18, ↓mi_96_19, ↓mi_96_35, ↓mi_96_36, ↓mi_96_39, ↓mi_96_40, ↓mi_96_41, ↓mi_96_44, ↓mi_96_45, ↓mi_96_46, ↓mi_96_47, ↓mi_96_48, ↓mi_96_49, ↓mi_96_50, ↓mi_96_51, ↓mi_96_54, ↓mi_96_55, ↓mi_96_58, ↓mi_96_59, ↓mi_96_59_1, ↓mi_96_59_b, cond_true, mz_clv, mz_cln, Bool.false_or, Bool.true_or, Bool.or_false, Bool.or_true, if_true, if_false, ite_self, o0_36, e1, e2, if_pos h1, hb, na_le, na_eq, pk_sub, if_pos, if_neg, if_pos h4]
          rfl
        · rw [decide_eq_false h4]
          simp (disch := omega) only [↓mi_96_0, ↓mi_96_1, ↓mi_96_2, ↓mi_96_3, ↓mi_96_6, ↓mi_96_7, ↓mi_96_10, ↓mi_96_12, ↓mi_96_15, ↓mi_96_16, ↓mi_96_16_1, ↓mi_96_16_b, ↓mi_96_17, ↓mi_96_18, ↓mi_96_19, ↓mi_96_35, ↓mi_96_36, ↓mi_96_39, ↓mi_96_40, ↓mi_96_41, ↓mi_96_44, ↓mi_96_45, ↓mi_96_46, ↓mi_96_47, ↓mi_96_48, ↓mi_96_49, ↓mi_96_50, ↓mi_96_51, ↓mi_96_54, ↓mi_96_55, ↓mi_96_58, ↓mi_96_59, ↓mi_96_59_1, ↓mi_96_59_b, cond_true, mz_clv, mz_cln, Bool.false_or, Bool.true_or, Bool.or_false, Bool.or_true, if_true, if_false, ite_self, o0_36, e1, e2, if_pos h1, hb, na_le, na_eq, pk_sub, if_pos, if_neg, if_neg h4]
          rfl
    · rw [decide_eq_false h2]
      simp (disch := omega) only [↓mi_96_0, ↓mi_96_1, ↓mi_96_2, ↓mi_96_3, ↓mi_96_6, ↓mi_96_7, ↓mi_96_10, ↓mi_96_12, ↓mi_96_15, ↓mi_96_16, ↓mi_96_16_1, ↓mi_96_16_b, cond_true, mz_clv, mz_cln, Bool.false_or, Bool.true_or, Bool.or_false, Bool.or_true, if_true, if_false, ite_self, e1, e2, if_pos h1, hb, na_le, if_neg]
      rfl
  · rw [decide_eq_false h1]
    simp (disch := omega) only [↓mi_96_0, ↓mi_96_1, ↓mi_96_2, ↓mi_96_3, ↓mi_96_15, ↓mi_96_16, ↓mi_96_16_1, ↓mi_96_16_b, e1, e2, if_neg h1]
    rfl
/-- what an answer that is taken changes in the phone -/
def ms_tk (I I' : ms_i) (u s p T : Nat) : Prop := I' 36 u = upd (I 36 u) s (I 18 p 0) ∧ (s = 0 → ∀ k, k < 32 → I' 37 u (1 + k) = I 18 p (1 + k)) ∧ (s ≠ 0 → I' 37 u = I 37 u) ∧ (s = 1 → ∀ k, k < 64 → I' 38 u (1 + k) = I 18 p (1 + k)) ∧ (s ≠ 1 → I' 38 u = I 38 u) ∧ I' 31 u = upd (I 31 u) 10 (nI (T + 1)) ∧ (∀ r u', (r ≠ 31 ∨ u' ≠ u) → (r ≠ 36 ∨ u' ≠ u) → (r ≠ 37 ∨ u' ≠ u) → (r ≠ 38 ∨ u' ≠ u) → I' r u' = I r u')
theorem sp_95n {u s n t S T : Nat} (hu : u < 8) (hs : s < 3) (hn : n ≤ 8) (ht : t ≤ 8) (lS : S ≤ 4) (lT : T ≤ 4) (hS : I 31 u 9 = nI S) (hT : I 31 u 10 = nI T) (hb : (decide (S = s + 1) && decide (T = s) && ms_gd n t s u (I 18 (7 * u + 4 + s) 0) (I 36 u (s - 1))) = false) : ms_G 95 0 [.ref (ms_ad 31 u), .ref (ms_ad 17 (7 * u + 4 + s)), .int (nI n), .int (nI t), .null, .null] [] (ms_Z q false I J) = some (.inl (some (.int (ms_b false))), ms_Z q false I J) := by
  have e0 := sva_0 (u := u) hs
  have es := sub1_eq (s := s) (S := S) (by omega) (by omega)
  have hl := ms_wl_le (7 * u + 4 + s)
  have oo := o0_18 (q := q.1) (p := 7 * u + 4 + s) (i := 0) (by omega) (wl_pos hs)
  have h96 := sp_96 (q := q) (I := I) (J := J) (x := I 18 (7 * u + 4 + s) 0) hu hs hn ht
  by_cases h1 : S = s + 1
  · by_cases h2 : T = s
    · rw [decide_eq_true h1, decide_eq_true h2, Bool.true_and, Bool.true_and] at hb
      rw [hb] at h96
      simp (disch := omega) only [↓mi_95_0, ↓mi_95_1, ↓mi_95_4, ↓mi_95_6, ↓mi_95_7, ↓mi_95_10, ↓mi_95_11, ↓mi_95_12, ↓mi_95_14, ↓mi_95_16, ↓mi_95_17, ↓mi_95_20, ↓mi_95_21, ↓mi_95_22, ↓mi_95_25, ↓mi_95_27, ↓mi_95_28, ↓mi_95_31, ↓mi_95_34, ↓mi_95_35, ↓mi_95_37, ↓mi_95_39, ↓mi_95_40, ↓mi_95_41, ↓mi_95_44, ↓mi_95_47, ↓mi_95_48, ↓mi_95_48_1, ↓mi_95_48_b, cond_true, mz_clv, mz_cln, Bool.false_or, Bool.true_or, Bool.or_false, Bool.or_true, if_true, if_false, ite_self, oo, e0, hS, hT, es, na_eq, if_pos, h96, if_pos b_f]
      rfl
    · simp (disch := omega) only [↓mi_95_0, ↓mi_95_1, ↓mi_95_4, ↓mi_95_6, ↓mi_95_7, ↓mi_95_10, ↓mi_95_11, ↓mi_95_12, ↓mi_95_14, ↓mi_95_16, ↓mi_95_17, ↓mi_95_20, ↓mi_95_21, ↓mi_95_22, ↓mi_95_25, ↓mi_95_27, ↓mi_95_28, ↓mi_95_31, ↓mi_95_47, ↓mi_95_48, ↓mi_95_48_1, ↓mi_95_48_b, cond_true, mz_clv, mz_cln, Bool.false_or, Bool.true_or, Bool.or_false, Bool.or_true, if_true, if_false, ite_self, oo, e0, hS, hT, es, na_eq, if_pos, if_neg]
      rfl
  · simp (disch := omega) only [↓mi_95_0, ↓mi_95_1, ↓mi_95_4, ↓mi_95_6, ↓mi_95_7, ↓mi_95_10, ↓mi_95_11, ↓mi_95_12, ↓mi_95_14, ↓mi_95_16, ↓mi_95_17, ↓mi_95_20, ↓mi_95_21, ↓mi_95_22, ↓mi_95_47, ↓mi_95_48, ↓mi_95_48_1, ↓mi_95_48_b, cond_true, mz_clv, mz_cln, Bool.false_or, Bool.true_or, Bool.or_false, Bool.or_true, if_true, if_false, ite_self, oo, e0, hS, es, if_neg]
    rfl
theorem sp_95y {u s n t S T : Nat} (hu : u < 8) (hs : s < 3) (hn : n ≤ 8) (ht : t ≤ 8) (lS : S ≤ 4) (lT : T ≤ 4) (hS : I 31 u 9 = nI S) (hT : I 31 u 10 = nI T) (hb : (decide (S = s + 1) && decide (T = s) && ms_gd n t s u (I 18 (7 * u + 4 + s) 0) (I 36 u (s - 1))) = true) : ∃ I', ms_G 95 0 [.ref (ms_ad 31 u), .ref (ms_ad 17 (7 * u + 4 + s)), .int (nI n), .int (nI t), .null, .null] [] (ms_Z q false I J) = some (.inl (some (.int (ms_b true))), ms_Z q true I' J) ∧ ms_tk I I' u s (7 * u + 4 + s) T := by
  obtain ⟨p, ep⟩ : ∃ p, p = 7 * u + 4 + s := ⟨_, rfl⟩
  have lp : p < 56 := by omega
  have e0 := sva_0 (u := u) hs
  have es := sub1_eq (s := s) (S := S) (by omega) (by omega)
  have oo := o0_18 (q := q.1) (p := 7 * u + 4 + s) (i := 0) (by omega) (wl_pos hs)
  have h96 := sp_96 (q := q) (I := I) (J := J) (x := I 18 (7 * u + 4 + s) 0) hu hs hn ht
  rw [← ep] at hb h96 oo e0 ⊢
  simp only [Bool.and_eq_true, decide_eq_true_eq] at hb
  obtain ⟨⟨h1, h2⟩, h3⟩ := hb
  rw [h3] at h96
  have c3 : s = 0 ∨ s = 1 ∨ s = 2 := by omega
  rcases c3 with h | h | h
  · have hl : ms_wl p = 33 := by rw [ep, Nat.add_assoc]; exact wl_4 (by omega)
    have hc : mo_c q.1 18 p 37 u 0 0 33 = true := mo_c_ok rfl rfl lp hu (show 0 + 33 ≤ ms_wl p by omega) (show 0 + 33 ≤ 33 by decide) (by decide) (by decide)
    refine ⟨ms_u (ms_u (ms_u I 36 u (upd (I 36 u) s (I 18 p 0))) 37 u (va_cpy (I 18 p) (I 37 u) 0 0 33)) 31 u (upd (I 31 u) 10 (nI (T + 1))), ?_, ?_, ?_, ?_, ?_, ?_, ?_, ?_⟩
    · simp (disch := omega) only [↓mi_95_0, ↓mi_95_1, ↓mi_95_4, ↓mi_95_6, ↓mi_95_7, ↓mi_95_10, ↓mi_95_11, ↓mi_95_12, ↓mi_95_14, ↓mi_95_16, ↓mi_95_17, ↓mi_95_20, ↓mi_95_21, ↓mi_95_22, ↓mi_95_25, ↓mi_95_27, ↓mi_95_28, ↓mi_95_31, ↓mi_95_34, ↓mi_95_35, ↓mi_95_37, ↓mi_95_39, ↓mi_95_40, ↓mi_95_41, ↓mi_95_44, ↓mi_95_49, ↓mi_95_50, ↓mi_95_53, ↓mi_95_55, ↓mi_95_57, ↓mi_95_58, ↓mi_95_60, ↓mi_95_63, ↓mi_95_64, ↓mi_95_67, ↓mi_95_68, ↓mi_95_69, ↓mi_95_72, ↓mi_95_73, ↓mi_95_74, ↓mi_95_77, ↓mi_95_78, ↓mi_95_81, ↓mi_95_108, ↓mi_95_109, ↓mi_95_110, ↓mi_95_113, ↓mi_95_114, ↓mi_95_115, ↓mi_95_118, ↓mi_95_119, ↓mi_95_119_1, ↓mi_95_119_b, cond_true, mz_clv, mz_cln, Bool.false_or, Bool.true_or, Bool.or_false, Bool.or_true, if_true, if_false, ite_self, ms_u_s, ms_u_r, ms_u_i, ms_u_u, o0_36, o3_37, nr_37, oo, e0, hS, hT, es, na_eq, na_up, if_pos, h96, if_neg b_t, hc]
      rfl
    · rw [ms_u_r _ _ _ _ (by decide), ms_u_r _ _ _ _ (by decide), ms_u_s]
    · intro _ k hk
      rw [ms_u_r _ _ _ _ (by decide), ms_u_s, pk_cpy_in (by omega) (by omega), show 0 + (1 + k - 0) = 1 + k by omega]
    · intro z
      exact absurd h z
    · intro z
      omega
    · intro _
      rw [ms_u_r _ _ _ _ (by decide), ms_u_r _ _ _ _ (by decide), ms_u_r _ _ _ _ (by decide)]
    · rw [ms_u_s]
    · intro r u' n1 n2 n3 n4
      rw [show ∀ (I : ms_i) f, ms_u I 31 u f r u' = I r u' from fun I f => if_neg fun z => by rcases n1 with h | h <;> omega, show ∀ (I : ms_i) f, ms_u I 37 u f r u' = I r u' from fun I f => if_neg fun z => by rcases n3 with h | h <;> omega]
      exact if_neg fun z => by rcases n2 with h | h <;> omega
  · have hl : ms_wl p = 65 := by rw [ep, Nat.add_assoc]; exact wl_5 (by omega)
    have hc : mo_c q.1 18 p 38 u 0 0 65 = true := mo_c_ok rfl rfl lp hu (show 0 + 65 ≤ ms_wl p by omega) (show 0 + 65 ≤ 65 by decide) (by decide) (by decide)
    refine ⟨ms_u (ms_u (ms_u I 36 u (upd (I 36 u) s (I 18 p 0))) 38 u (va_cpy (I 18 p) (I 38 u) 0 0 65)) 31 u (upd (I 31 u) 10 (nI (T + 1))), ?_, ?_, ?_, ?_, ?_, ?_, ?_, ?_⟩
    · simp (disch := omega) only [↓mi_95_0, ↓mi_95_1, ↓mi_95_4, ↓mi_95_6, ↓mi_95_7, ↓mi_95_10, ↓mi_95_11, ↓mi_95_12, ↓mi_95_14, ↓mi_95_16, ↓mi_95_17, ↓mi_95_20, ↓mi_95_21, ↓mi_95_22, ↓mi_95_25, ↓mi_95_27, ↓mi_95_28, ↓mi_95_31, ↓mi_95_34, ↓mi_95_35, ↓mi_95_37, ↓mi_95_39, ↓mi_95_40, ↓mi_95_41, ↓mi_95_44, ↓mi_95_49, ↓mi_95_50, ↓mi_95_53, ↓mi_95_55, ↓mi_95_57, ↓mi_95_58, ↓mi_95_60, ↓mi_95_84, ↓mi_95_86, ↓mi_95_87, ↓mi_95_90, ↓mi_95_91, ↓mi_95_94, ↓mi_95_95, ↓mi_95_96, ↓mi_95_99, ↓mi_95_100, ↓mi_95_101, ↓mi_95_104, ↓mi_95_105, ↓mi_95_108, ↓mi_95_109, ↓mi_95_110, ↓mi_95_113, ↓mi_95_114, ↓mi_95_115, ↓mi_95_118, ↓mi_95_119, ↓mi_95_119_1, ↓mi_95_119_b, cond_true, mz_clv, mz_cln, Bool.false_or, Bool.true_or, Bool.or_false, Bool.or_true, if_true, if_false, ite_self, ms_u_s, ms_u_r, ms_u_i, ms_u_u, o0_36, o3_38, nr_38, oo, e0, hS, hT, es, na_eq, na_up, if_pos, if_neg, h96, if_neg b_t, hc]
      rfl
    · rw [ms_u_r _ _ _ _ (by decide), ms_u_r _ _ _ _ (by decide), ms_u_s]
    · intro z
      omega
    · intro _
      rw [ms_u_r _ _ _ _ (by decide), ms_u_r _ _ _ _ (by decide), ms_u_r _ _ _ _ (by decide)]
    · intro _ k hk
      rw [ms_u_r _ _ _ _ (by decide), ms_u_s, pk_cpy_in (by omega) (by omega), show 0 + (1 + k - 0) = 1 + k by omega]
    · intro z
      exact absurd h z
    · rw [ms_u_s]
    · intro r u' n1 n2 n3 n4
      rw [show ∀ (I : ms_i) f, ms_u I 31 u f r u' = I r u' from fun I f => if_neg fun z => by rcases n1 with h | h <;> omega, show ∀ (I : ms_i) f, ms_u I 38 u f r u' = I r u' from fun I f => if_neg fun z => by rcases n4 with h | h <;> omega]
      exact if_neg fun z => by rcases n2 with h | h <;> omega
  · refine ⟨ms_u (ms_u I 36 u (upd (I 36 u) s (I 18 p 0))) 31 u (upd (I 31 u) 10 (nI (T + 1))), ?_, ?_, ?_, ?_, ?_, ?_, ?_, ?_⟩
    · simp (disch := omega) only [↓mi_95_0, ↓mi_95_1, ↓mi_95_4, ↓mi_95_6, ↓mi_95_7, ↓mi_95_10, ↓mi_95_11, ↓mi_95_12, ↓mi_95_14, ↓mi_95_16, ↓mi_95_17, ↓mi_95_20, ↓mi_95_21, ↓mi_95_22, ↓mi_95_25, ↓mi_95_27, ↓mi_95_28, ↓mi_95_31, ↓mi_95_34, ↓mi_95_35, ↓mi_95_37, ↓mi_95_39, ↓mi_95_40, ↓mi_95_41, ↓mi_95_44, ↓mi_95_49, ↓mi_95_50, ↓mi_95_53, ↓mi_95_55, ↓mi_95_57, ↓mi_95_58, ↓mi_95_60, ↓mi_95_84, ↓mi_95_86, ↓mi_95_87, ↓mi_95_108, ↓mi_95_109, ↓mi_95_110, ↓mi_95_113, ↓mi_95_114, ↓mi_95_115, ↓mi_95_118, ↓mi_95_119, ↓mi_95_119_1, ↓mi_95_119_b, cond_true, mz_clv, mz_cln, Bool.false_or, Bool.true_or, Bool.or_false, Bool.or_true, if_true, if_false, ite_self, ms_u_s, ms_u_r, ms_u_i, ms_u_u, o0_36, oo, e0, hS, hT, es, na_eq, na_up, if_pos, if_neg, h96, if_neg b_t]
      rfl
    · rw [ms_u_r _ _ _ _ (by decide), ms_u_s]
    · intro z
      omega
    · intro _
      rw [ms_u_r _ _ _ _ (by decide), ms_u_r _ _ _ _ (by decide)]
    · intro z
      omega
    · intro _
      rw [ms_u_r _ _ _ _ (by decide), ms_u_r _ _ _ _ (by decide)]
    · rw [ms_u_s]
    · intro r u' n1 n2 n3 n4
      rw [show ∀ (I : ms_i) f, ms_u I 31 u f r u' = I r u' from fun I f => if_neg fun z => by rcases n1 with h | h <;> omega]
      exact if_neg fun z => by rcases n2 with h | h <;> omega
/-- the model's side of it -/
def ms_tm (I I' : ms_i) (u s a T : Nat) : Prop := I' 47 0 = upd (I 47 0) (3 * u + s) (I 56 0 (a + 4)) ∧ (s = 0 → ∀ k, k < 32 → I' 48 0 (32 * u + k) = I 56 0 (a + 5 + k)) ∧ (∀ i, (s ≠ 0 ∨ i < 32 * u ∨ 32 * u + 32 ≤ i) → I' 48 0 i = I 48 0 i) ∧ (s = 1 → ∀ k, k < 64 → I' 49 0 (64 * u + k) = I 56 0 (a + 5 + k)) ∧ (∀ i, (s ≠ 1 ∨ i < 64 * u ∨ 64 * u + 64 ≤ i) → I' 49 0 i = I 49 0 i) ∧ I' 44 0 = upd (I 44 0) u (nI (T + 1)) ∧ ms_fq [44, 47, 48, 49] I I'
def ms_cc2 (d k : Nat) (a : Nat) (g f : Nat → Int32) : Nat → Int32 := fun i => if d ≤ i ∧ i < d + k then g (a + (i - d)) else f i
theorem ms_cc2_s (d k a : Nat) (g f : Nat → Int32) : upd (ms_cc2 d k a g f) (d + k) (g (a + k)) = ms_cc2 d (k + 1) a g f := by
  funext i
  unfold upd ms_cc2
  by_cases h : i = d + k
  · rw [if_pos h, if_pos (by omega), show i - d = k by omega]
  · rw [if_neg h]
    by_cases h2 : d ≤ i ∧ i < d + k
    · rw [if_pos h2, if_pos (by omega)]
    · rw [if_neg h2, if_neg (by omega)]
theorem ms_cc2_0 (d a : Nat) (g f : Nat → Int32) : ms_cc2 d 0 a g f = f := by
  funext i
  exact if_neg (by omega)
theorem cc2_in {d k a j : Nat} {g f : Nat → Int32} (h : j < k) : ms_cc2 d k a g f (d + j) = g (a + j) := by
  unfold ms_cc2
  rw [if_pos (by omega), show d + j - d = j by omega]
theorem cc2_out {d k a i : Nat} {g f : Nat → Int32} (h : i < d ∨ d + k ≤ i) : ms_cc2 d k a g f i = f i := if_neg (by omega)
theorem ka_l {u a : Nat} (hu : u < 8) (ha : a + 70 ≤ 4480) {f : Nat → Int32} {l4 : Value} {y5 : Int32} : ∀ d k, d + k = 32 → ms_G 50 159 [.ref (ms_ad 40 0), .int (nI a), .int (nI 0), .int (nI u), l4, .int y5, .int (nI k)] [] (ms_Z q true (ms_u I 48 0 (ms_cc2 (32 * u) k (a + 5) (I 56 0) f)) J) = ms_G 50 199 [.ref (ms_ad 40 0), .int (nI a), .int (nI 0), .int (nI u), l4, .int y5, .int (nI 32)] [] (ms_Z q true (ms_u I 48 0 (ms_cc2 (32 * u) 32 (a + 5) (I 56 0) f)) J)
  | 0, k, hk => by
    have : k = 32 := by omega
    subst this
    simp (disch := omega) only [↓mi_50_159, ↓mi_50_161, ↓mi_50_163, na_le, if_pos]
  | d + 1, k, hk => by
    have ih := ka_l hu ha (f := f) (l4 := l4) (y5 := y5) d (k + 1) (by omega)
    have es := ms_cc2_s (32 * u) k (a + 5) (I 56 0) f
    rw [mi_50_159]
    simp (disch := omega) only [↓mi_50_161, ↓mi_50_163, ↓mi_50_166, ↓mi_50_167, ↓mi_50_170, ↓mi_50_171, ↓mi_50_174, ↓mi_50_176, ↓mi_50_177, ↓mi_50_178, ↓mi_50_180, ↓mi_50_181, ↓mi_50_182, ↓mi_50_185, ↓mi_50_186, ↓mi_50_187, ↓mi_50_188, ↓mi_50_190, ↓mi_50_191, ↓mi_50_192, ↓mi_50_193, ↓mi_50_196, cond_true, mz_clv, mz_cln, Bool.false_or, Bool.true_or, Bool.or_false, Bool.or_true, if_true, if_false, ite_self, ms_u_s, ms_u_r, ms_u_i, ms_u_u, o0_48, o0_56, na_le, na_eq, na_up, pk_mul, if_neg, if_pos, es]
    exact ih
theorem kb_l {u a : Nat} (hu : u < 8) (ha : a + 70 ≤ 4480) {f : Nat → Int32} {l4 : Value} {y5 : Int32} : ∀ d k, d + k = 64 → ms_G 50 202 [.ref (ms_ad 40 0), .int (nI a), .int (nI 1), .int (nI u), l4, .int y5, .int (nI k)] [] (ms_Z q true (ms_u I 49 0 (ms_cc2 (64 * u) k (a + 5) (I 56 0) f)) J) = ms_G 50 243 [.ref (ms_ad 40 0), .int (nI a), .int (nI 1), .int (nI u), l4, .int y5, .int (nI 64)] [] (ms_Z q true (ms_u I 49 0 (ms_cc2 (64 * u) 64 (a + 5) (I 56 0) f)) J)
  | 0, k, hk => by
    have : k = 64 := by omega
    subst this
    simp (disch := omega) only [↓mi_50_202, ↓mi_50_204, ↓mi_50_206, na_le, if_pos]
  | d + 1, k, hk => by
    have ih := kb_l hu ha (f := f) (l4 := l4) (y5 := y5) d (k + 1) (by omega)
    have es := ms_cc2_s (64 * u) k (a + 5) (I 56 0) f
    rw [mi_50_202]
    simp (disch := omega) only [↓mi_50_204, ↓mi_50_206, ↓mi_50_209, ↓mi_50_210, ↓mi_50_211, ↓mi_50_214, ↓mi_50_215, ↓mi_50_218, ↓mi_50_220, ↓mi_50_221, ↓mi_50_222, ↓mi_50_224, ↓mi_50_225, ↓mi_50_226, ↓mi_50_229, ↓mi_50_230, ↓mi_50_231, ↓mi_50_232, ↓mi_50_234, ↓mi_50_235, ↓mi_50_236, ↓mi_50_237, ↓mi_50_240, cond_true, mz_clv, mz_cln, Bool.false_or, Bool.true_or, Bool.or_false, Bool.or_true, if_true, if_false, ite_self, ms_u_s, ms_u_r, ms_u_i, ms_u_u, o0_49, o0_56, na_le, na_eq, na_up, pk_mul, if_neg, if_pos, es]
    exact ih
/-- up to the decision -/
theorem an_1 {u s n t S T a : Nat} {b : Bool} (hu : u < 8) (hs : s < 3) (hn : n ≤ 8) (ht : t ≤ 8) (lS : S ≤ 4) (lT : T ≤ 4) (ha : a + 70 ≤ 4480) (hN : I 40 0 1 = nI n) (hTt : I 40 0 2 = nI t) (hS : I 43 0 u = nI S) (hT : I 44 0 u = nI T) (r0 : I 56 0 a = nI s) (r1 : I 56 0 (a + 1) = nI u) (eb : b = (decide (S = s + 1) && decide (T = s) && ms_gd n t s u (I 56 0 (a + 4)) (I 47 0 (3 * u + s - 1)))) : ∃ l5 : Int32, ms_G 50 0 [.ref (ms_ad 40 0), .int (nI a), .null, .null, .null, .null, .null] [] (ms_Z q false I J) = ms_G 50 129 [.ref (ms_ad 40 0), .int (nI a), .int (nI s), .int (nI u), .int (I 56 0 (a + 4)), .int l5, .null] [.int (ms_b b)] (ms_Z q false I J) := by
  obtain ⟨x, ex⟩ : ∃ x, x = I 56 0 (a + 4) := ⟨_, rfl⟩
  obtain ⟨y, ey⟩ : ∃ y, y = I 47 0 (3 * u + s - 1) := ⟨_, rfl⟩
  rw [← ex] at eb ⊢
  rw [← ey] at eb
  have ex' := ex.symm
  have ey' := ey.symm
  have sa := sar_0 (x := x) hn
  unfold ms_gd at eb
  by_cases h1 : S = s + 1
  · by_cases h2 : T = s
    · rw [decide_eq_true h1, decide_eq_true h2, Bool.true_and, Bool.true_and] at eb
      by_cases h3 : mU x < 2 ^ n
      · rw [decide_eq_true h3, Bool.true_and] at eb
        have p := p2_8 hn
        have hb := sp_43 (σ := ms_Z q false I J) (n := mU x) (by omega)
        rw [nI_mU] at hb
        have pl := pc_le (mU x)
        by_cases h4 : t ≤ ms_pc (mU x)
        · rw [decide_eq_true h4, Bool.true_and] at eb
          have c3 : s = 0 ∨ s = 1 ∨ s = 2 := by omega
          rcases c3 with h | h | h
          · rw [h, decide_eq_false (by decide), decide_eq_true rfl, Bool.false_or, Bool.true_or, Bool.and_true] at eb
            subst h
            cases hc : ms_bit x u with
            | true =>
              rw [hc] at eb
              subst eb
              refine ⟨nI 1, ?_⟩
              simp (disch := omega) only [↓mi_50_0, ↓mi_50_1, ↓mi_50_4, ↓mi_50_5, ↓mi_50_6, ↓mi_50_7, ↓mi_50_8, ↓mi_50_11, ↓mi_50_12, ↓mi_50_13, ↓mi_50_14, ↓mi_50_15, ↓mi_50_16, ↓mi_50_17, ↓mi_50_20, ↓mi_50_21, ↓mi_50_22, ↓mi_50_23, ↓mi_50_24, ↓mi_50_26, ↓mi_50_27, ↓mi_50_30, ↓mi_50_31, ↓mi_50_32, ↓mi_50_33, ↓mi_50_34, ↓mi_50_35, ↓mi_50_38, ↓mi_50_39, ↓mi_50_42, ↓mi_50_43, ↓mi_50_44, ↓mi_50_45, ↓mi_50_48, ↓mi_50_50, ↓mi_50_51, ↓mi_50_54, ↓mi_50_55, ↓mi_50_58, ↓mi_50_60, ↓mi_50_63, ↓mi_50_64, ↓mi_50_67, ↓mi_50_70, ↓mi_50_71, ↓mi_50_72, ↓mi_50_75, ↓mi_50_77, ↓mi_50_78, ↓mi_50_81, ↓mi_50_84, ↓mi_50_85, ↓mi_50_88, ↓mi_50_89, ↓mi_50_91, ↓mi_50_93, ↓mi_50_96, ↓mi_50_97, ↓mi_50_127, cond_true, mz_clv, mz_cln, Bool.false_or, Bool.true_or, Bool.or_false, Bool.or_true, if_true, if_false, ite_self, o0_43, o0_44, o0_56, hN, hTt, hS, hT, r0, r1, ex', sa, na_up, na_eq, na_lt, na_le, if_pos, if_neg, if_pos h3, hb, sp_42, hc, if_neg b_t]
              rfl
            | false =>
              rw [hc] at eb
              subst eb
              refine ⟨nI 0, ?_⟩
              simp (disch := omega) only [↓mi_50_0, ↓mi_50_1, ↓mi_50_4, ↓mi_50_5, ↓mi_50_6, ↓mi_50_7, ↓mi_50_8, ↓mi_50_11, ↓mi_50_12, ↓mi_50_13, ↓mi_50_14, ↓mi_50_15, ↓mi_50_16, ↓mi_50_17, ↓mi_50_20, ↓mi_50_21, ↓mi_50_22, ↓mi_50_23, ↓mi_50_24, ↓mi_50_26, ↓mi_50_27, ↓mi_50_30, ↓mi_50_31, ↓mi_50_32, ↓mi_50_33, ↓mi_50_34, ↓mi_50_35, ↓mi_50_38, ↓mi_50_39, ↓mi_50_42, ↓mi_50_43, ↓mi_50_44, ↓mi_50_45, ↓mi_50_48, ↓mi_50_50, ↓mi_50_51, ↓mi_50_54, ↓mi_50_55, ↓mi_50_58, ↓mi_50_60, ↓mi_50_63, ↓mi_50_64, ↓mi_50_67, ↓mi_50_70, ↓mi_50_71, ↓mi_50_72, ↓mi_50_75, ↓mi_50_77, ↓mi_50_78, ↓mi_50_81, ↓mi_50_84, ↓mi_50_85, ↓mi_50_88, ↓mi_50_89, ↓mi_50_91, ↓mi_50_93, ↓mi_50_96, ↓mi_50_97, ↓mi_50_127, cond_true, mz_clv, mz_cln, Bool.false_or, Bool.true_or, Bool.or_false, Bool.or_true, if_true, if_false, ite_self, o0_43, o0_44, o0_56, hN, hTt, hS, hT, r0, r1, ex', sa, na_up, na_eq, na_lt, na_le, if_pos, if_neg, if_pos h3, hb, sp_42, hc, if_pos b_f]
              rfl
          · rw [h, decide_eq_false (by decide), decide_eq_false (by decide), Bool.false_or, Bool.false_or] at eb
            subst h
            cases hc : ms_bit x u with
            | true =>
              rw [hc, Bool.true_and] at eb
              subst eb
              by_cases h5 : x &&& (y ^^^ -1) = nI 0
              · refine ⟨nI 1, ?_⟩
                rw [decide_eq_true h5]
                simp (disch := omega) only [↓mi_50_0, ↓mi_50_1, ↓mi_50_4, ↓mi_50_5, ↓mi_50_6, ↓mi_50_7, ↓mi_50_8, ↓mi_50_11, ↓mi_50_12, ↓mi_50_13, ↓mi_50_14, ↓mi_50_15, ↓mi_50_16, ↓mi_50_17, ↓mi_50_20, ↓mi_50_21, ↓mi_50_22, ↓mi_50_23, ↓mi_50_24, ↓mi_50_26, ↓mi_50_27, ↓mi_50_30, ↓mi_50_31, ↓mi_50_32, ↓mi_50_33, ↓mi_50_34, ↓mi_50_35, ↓mi_50_38, ↓mi_50_39, ↓mi_50_42, ↓mi_50_43, ↓mi_50_44, ↓mi_50_45, ↓mi_50_48, ↓mi_50_50, ↓mi_50_51, ↓mi_50_54, ↓mi_50_55, ↓mi_50_58, ↓mi_50_60, ↓mi_50_63, ↓mi_50_64, ↓mi_50_67, ↓mi_50_70, ↓mi_50_71, ↓mi_50_72, ↓mi_50_75, ↓mi_50_77, ↓mi_50_78, ↓mi_50_81, ↓mi_50_84, ↓mi_50_85, ↓mi_50_88, ↓mi_50_89, ↓mi_50_91, ↓mi_50_93, ↓mi_50_96, ↓mi_50_97, ↓mi_50_100, ↓mi_50_102, ↓mi_50_103, ↓mi_50_106, ↓mi_50_107, ↓mi_50_108, ↓mi_50_109, ↓mi_50_110, ↓mi_50_111, ↓mi_50_112, ↓mi_50_113, ↓mi_50_114, ↓mi_50_115, ↓mi_50_116, ↓mi_50_117, ↓mi_50_120, ↓mi_50_121, ↓mi_50_124, ↓mi_50_125, ↓mi_50_127, cond_true, mz_clv, mz_cln, Bool.false_or, Bool.true_or, Bool.or_false, Bool.or_true, if_true, if_false, ite_self, o0_43, o0_44, o0_47, o0_56, hN, hTt, hS, hT, r0, r1, ex', ey', sa, na_up, na_eq, na_lt, na_le, pk_mul, pk_sub, if_pos, if_neg, if_pos h3, hb, sp_42, hc, if_neg b_t, if_pos h5]
                rfl
              · refine ⟨nI 0, ?_⟩
                rw [decide_eq_false h5]
                simp (disch := omega) only [↓mi_50_0, ↓mi_50_1, ↓mi_50_4, ↓mi_50_5, ↓mi_50_6, ↓mi_50_7, ↓mi_50_8, ↓mi_50_11, ↓mi_50_12, ↓mi_50_13, ↓mi_50_14, ↓mi_50_15, ↓mi_50_16, ↓mi_50_17, ↓mi_50_20, ↓mi_50_21, ↓mi_50_22, ↓mi_50_23, ↓mi_50_24, ↓mi_50_26, ↓mi_50_27, ↓mi_50_30, ↓mi_50_31, ↓mi_50_32, ↓mi_50_33, ↓mi_50_34, ↓mi_50_35, ↓mi_50_38, ↓mi_50_39, ↓mi_50_42, ↓mi_50_43, ↓mi_50_44, ↓mi_50_45, ↓mi_50_48, ↓mi_50_50, ↓mi_50_51, ↓mi_50_54, ↓mi_50_55, ↓mi_50_58, ↓mi_50_60, ↓mi_50_63, ↓mi_50_64, ↓mi_50_67, ↓mi_50_70, ↓mi_50_71, ↓mi_50_72, ↓mi_50_75, ↓mi_50_77, ↓mi_50_78, ↓mi_50_81, ↓mi_50_84, ↓mi_50_85, ↓mi_50_88, ↓mi_50_89, ↓mi_50_91, ↓mi_50_93, ↓mi_50_96, ↓mi_50_97, ↓mi_50_100, ↓mi_50_102, ↓mi_50_103, ↓mi_50_106, ↓mi_50_107, ↓mi_50_108, ↓mi_50_109, ↓mi_50_110, ↓mi_50_111, ↓mi_50_112, ↓mi_50_113, ↓mi_50_114, ↓mi_50_115, ↓mi_50_116, ↓mi_50_117, ↓mi_50_120, ↓mi_50_121, ↓mi_50_124, ↓mi_50_125, ↓mi_50_127, cond_true, mz_clv, mz_cln, Bool.false_or, Bool.true_or, Bool.or_false, Bool.or_true, if_true, if_false, ite_self, o0_43, o0_44, o0_47, o0_56, hN, hTt, hS, hT, r0, r1, ex', ey', sa, na_up, na_eq, na_lt, na_le, pk_mul, pk_sub, if_pos, if_neg, if_pos h3, hb, sp_42, hc, if_neg b_t, if_neg h5]
                rfl
            | false =>
              rw [hc] at eb
              subst eb
              refine ⟨nI 0, ?_⟩
              simp (disch := omega) only [↓mi_50_0, ↓mi_50_1, ↓mi_50_4, ↓mi_50_5, ↓mi_50_6, ↓mi_50_7, ↓mi_50_8, ↓mi_50_11, ↓mi_50_12, ↓mi_50_13, ↓mi_50_14, ↓mi_50_15, ↓mi_50_16, ↓mi_50_17, ↓mi_50_20, ↓mi_50_21, ↓mi_50_22, ↓mi_50_23, ↓mi_50_24, ↓mi_50_26, ↓mi_50_27, ↓mi_50_30, ↓mi_50_31, ↓mi_50_32, ↓mi_50_33, ↓mi_50_34, ↓mi_50_35, ↓mi_50_38, ↓mi_50_39, ↓mi_50_42, ↓mi_50_43, ↓mi_50_44, ↓mi_50_45, ↓mi_50_48, ↓mi_50_50, ↓mi_50_51, ↓mi_50_54, ↓mi_50_55, ↓mi_50_58, ↓mi_50_60, ↓mi_50_63, ↓mi_50_64, ↓mi_50_67, ↓mi_50_70, ↓mi_50_71, ↓mi_50_72, ↓mi_50_75, ↓mi_50_77, ↓mi_50_78, ↓mi_50_81, ↓mi_50_84, ↓mi_50_85, ↓mi_50_88, ↓mi_50_89, ↓mi_50_91, ↓mi_50_93, ↓mi_50_96, ↓mi_50_97, ↓mi_50_127, cond_true, mz_clv, mz_cln, Bool.false_or, Bool.true_or, Bool.or_false, Bool.or_true, if_true, if_false, ite_self, o0_43, o0_44, o0_56, hN, hTt, hS, hT, r0, r1, ex', sa, na_up, na_eq, na_lt, na_le, if_pos, if_neg, if_pos h3, hb, sp_42, hc, if_pos b_f]
              rfl
          · rw [h, decide_eq_true rfl, decide_eq_false (by decide), Bool.true_or, Bool.false_or, Bool.true_and] at eb
            subst h
            subst eb
            by_cases h5 : x &&& (y ^^^ -1) = nI 0
            · refine ⟨nI 1, ?_⟩
              rw [decide_eq_true h5]
              simp (disch := omega) only [↓mi_50_0, ↓mi_50_1, ↓mi_50_4, ↓mi_50_5, ↓mi_50_6, ↓mi_50_7, ↓mi_50_8, ↓mi_50_11, ↓mi_50_12, ↓mi_50_13, ↓mi_50_14, ↓mi_50_15, ↓mi_50_16, ↓mi_50_17, ↓mi_50_20, ↓mi_50_21, ↓mi_50_22, ↓mi_50_23, ↓mi_50_24, ↓mi_50_26, ↓mi_50_27, ↓mi_50_30, ↓mi_50_31, ↓mi_50_32, ↓mi_50_33, ↓mi_50_34, ↓mi_50_35, ↓mi_50_38, ↓mi_50_39, ↓mi_50_42, ↓mi_50_43, ↓mi_50_44, ↓mi_50_45, ↓mi_50_48, ↓mi_50_50, ↓mi_50_51, ↓mi_50_54, ↓mi_50_55, ↓mi_50_58, ↓mi_50_60, ↓mi_50_63, ↓mi_50_64, ↓mi_50_67, ↓mi_50_70, ↓mi_50_71, ↓mi_50_72, ↓mi_50_75, ↓mi_50_77, ↓mi_50_78, ↓mi_50_81, ↓mi_50_84, ↓mi_50_85, ↓mi_50_88, ↓mi_50_89, ↓mi_50_91, ↓mi_50_93, ↓mi_50_96, ↓mi_50_97, ↓mi_50_100, ↓mi_50_102, ↓mi_50_103, ↓mi_50_106, ↓mi_50_107, ↓mi_50_108, ↓mi_50_109, ↓mi_50_110, ↓mi_50_111, ↓mi_50_112, ↓mi_50_113, ↓mi_50_114, ↓mi_50_115, ↓mi_50_116, ↓mi_50_117, ↓mi_50_120, ↓mi_50_121, ↓mi_50_124, ↓mi_50_125, ↓mi_50_127, cond_true, mz_clv, mz_cln, Bool.false_or, Bool.true_or, Bool.or_false, Bool.or_true, if_true, if_false, ite_self, o0_43, o0_44, o0_47, o0_56, hN, hTt, hS, hT, r0, r1, ex', ey', sa, na_up, na_eq, na_lt, na_le, pk_mul, pk_sub, if_pos, if_neg, if_pos h3, hb, if_pos h5]
              rfl
            · refine ⟨nI 0, ?_⟩
              rw [decide_eq_false h5]
              simp (disch := omega) only [↓mi_50_0, ↓mi_50_1, ↓mi_50_4, ↓mi_50_5, ↓mi_50_6, ↓mi_50_7, ↓mi_50_8, ↓mi_50_11, ↓mi_50_12, ↓mi_50_13, ↓mi_50_14, ↓mi_50_15, ↓mi_50_16, ↓mi_50_17, ↓mi_50_20, ↓mi_50_21, ↓mi_50_22, ↓mi_50_23, ↓mi_50_24, ↓mi_50_26, ↓mi_50_27, ↓mi_50_30, ↓mi_50_31, ↓mi_50_32, ↓mi_50_33, ↓mi_50_34, ↓mi_50_35, ↓mi_50_38, ↓mi_50_39, ↓mi_50_42, ↓mi_50_43, ↓mi_50_44, ↓mi_50_45, ↓mi_50_48, ↓mi_50_50, ↓mi_50_51, ↓mi_50_54, ↓mi_50_55, ↓mi_50_58, ↓mi_50_60, ↓mi_50_63, ↓mi_50_64, ↓mi_50_67, ↓mi_50_70, ↓mi_50_71, ↓mi_50_72, ↓mi_50_75, ↓mi_50_77, ↓mi_50_78, ↓mi_50_81, ↓mi_50_84, ↓mi_50_85, ↓mi_50_88, ↓mi_50_89, ↓mi_50_91, ↓mi_50_93, ↓mi_50_96, ↓mi_50_97, ↓mi_50_100, ↓mi_50_102, ↓mi_50_103, ↓mi_50_106, ↓mi_50_107, ↓mi_50_108, ↓mi_50_109, ↓mi_50_110, ↓mi_50_111, ↓mi_50_112, ↓mi_50_113, ↓mi_50_114, ↓mi_50_115, ↓mi_50_116, ↓mi_50_117, ↓mi_50_120, ↓mi_50_121, ↓mi_50_124, ↓mi_50_125, ↓mi_50_127, cond_true, mz_clv, mz_cln, Bool.false_or, Bool.true_or, Bool.or_false, Bool.or_true, if_true, if_false, ite_self, o0_43, o0_44, o0_47, o0_56, hN, hTt, hS, hT, r0, r1, ex', ey', sa, na_up, na_eq, na_lt, na_le, pk_mul, pk_sub, if_pos, if_neg, if_pos h3, hb, if_neg h5]
              rfl
        · rw [decide_eq_false h4] at eb
          subst eb
          refine ⟨nI 0, ?_⟩
          simp (disch := omega) only [↓mi_50_0, ↓mi_50_1, ↓mi_50_4, ↓mi_50_5, ↓mi_50_6, ↓mi_50_7, ↓mi_50_8, ↓mi_50_11, ↓mi_50_12, ↓mi_50_13, ↓mi_50_14, ↓mi_50_15, ↓mi_50_16, ↓mi_50_17, ↓mi_50_20, ↓mi_50_21, ↓mi_50_22, ↓mi_50_23, ↓mi_50_24, ↓mi_50_26, ↓mi_50_27, ↓mi_50_30, ↓mi_50_31, ↓mi_50_32, ↓mi_50_33, ↓mi_50_34, ↓mi_50_35, ↓mi_50_38, ↓mi_50_39, ↓mi_50_42, ↓mi_50_43, ↓mi_50_44, ↓mi_50_45, ↓mi_50_48, ↓mi_50_50, ↓mi_50_51, ↓mi_50_54, ↓mi_50_55, ↓mi_50_58, ↓mi_50_60, ↓mi_50_63, ↓mi_50_64, ↓mi_50_67, ↓mi_50_70, ↓mi_50_71, ↓mi_50_72, ↓mi_50_75, ↓mi_50_77, ↓mi_50_78, ↓mi_50_81, ↓mi_50_84, ↓mi_50_85, ↓mi_50_88, ↓mi_50_89, ↓mi_50_91, ↓mi_50_93, ↓mi_50_127, cond_true, mz_clv, mz_cln, Bool.false_or, Bool.true_or, Bool.or_false, Bool.or_true, if_true, if_false, ite_self, o0_43, o0_44, o0_56, hN, hTt, hS, hT, r0, r1, ex', sa, na_up, na_eq, na_lt, na_le, if_pos, if_neg, if_pos h3, hb]
          rfl
      · rw [decide_eq_false h3] at eb
        subst eb
        refine ⟨nI 0, ?_⟩
        simp (disch := omega) only [↓mi_50_0, ↓mi_50_1, ↓mi_50_4, ↓mi_50_5, ↓mi_50_6, ↓mi_50_7, ↓mi_50_8, ↓mi_50_11, ↓mi_50_12, ↓mi_50_13, ↓mi_50_14, ↓mi_50_15, ↓mi_50_16, ↓mi_50_17, ↓mi_50_20, ↓mi_50_21, ↓mi_50_22, ↓mi_50_23, ↓mi_50_24, ↓mi_50_26, ↓mi_50_27, ↓mi_50_30, ↓mi_50_31, ↓mi_50_32, ↓mi_50_33, ↓mi_50_34, ↓mi_50_35, ↓mi_50_38, ↓mi_50_39, ↓mi_50_42, ↓mi_50_43, ↓mi_50_44, ↓mi_50_45, ↓mi_50_48, ↓mi_50_50, ↓mi_50_51, ↓mi_50_54, ↓mi_50_55, ↓mi_50_58, ↓mi_50_60, ↓mi_50_63, ↓mi_50_64, ↓mi_50_67, ↓mi_50_70, ↓mi_50_71, ↓mi_50_72, ↓mi_50_75, ↓mi_50_77, ↓mi_50_78, ↓mi_50_81, ↓mi_50_84, ↓mi_50_85, ↓mi_50_88, ↓mi_50_89, ↓mi_50_91, ↓mi_50_93, ↓mi_50_127, cond_true, mz_clv, mz_cln, Bool.false_or, Bool.true_or, Bool.or_false, Bool.or_true, if_true, if_false, ite_self, o0_43, o0_44, o0_56, hN, hTt, hS, hT, r0, r1, ex', sa, na_up, na_eq, if_pos, if_neg h3]
        rfl
    · rw [decide_eq_true h1, decide_eq_false h2] at eb
      subst eb
      refine ⟨nI 0, ?_⟩
      simp (disch := omega) only [↓mi_50_0, ↓mi_50_1, ↓mi_50_4, ↓mi_50_5, ↓mi_50_6, ↓mi_50_7, ↓mi_50_8, ↓mi_50_11, ↓mi_50_12, ↓mi_50_13, ↓mi_50_14, ↓mi_50_15, ↓mi_50_16, ↓mi_50_17, ↓mi_50_20, ↓mi_50_21, ↓mi_50_22, ↓mi_50_23, ↓mi_50_24, ↓mi_50_26, ↓mi_50_27, ↓mi_50_30, ↓mi_50_31, ↓mi_50_32, ↓mi_50_33, ↓mi_50_34, ↓mi_50_35, ↓mi_50_38, ↓mi_50_39, ↓mi_50_42, ↓mi_50_43, ↓mi_50_44, ↓mi_50_45, ↓mi_50_48, ↓mi_50_50, ↓mi_50_51, ↓mi_50_54, ↓mi_50_55, ↓mi_50_58, ↓mi_50_60, ↓mi_50_63, ↓mi_50_64, ↓mi_50_67, ↓mi_50_70, ↓mi_50_71, ↓mi_50_72, ↓mi_50_75, ↓mi_50_77, ↓mi_50_78, ↓mi_50_81, ↓mi_50_84, ↓mi_50_85, ↓mi_50_88, ↓mi_50_89, ↓mi_50_91, ↓mi_50_93, ↓mi_50_127, cond_true, mz_clv, mz_cln, Bool.false_or, Bool.true_or, Bool.or_false, Bool.or_true, if_true, if_false, ite_self, o0_43, o0_44, o0_56, hN, hS, hT, r0, r1, ex', na_up, na_eq, if_pos, if_neg]
      rfl
  · rw [decide_eq_false h1] at eb
    subst eb
    refine ⟨nI 0, ?_⟩
    simp (disch := omega) only [↓mi_50_0, ↓mi_50_1, ↓mi_50_4, ↓mi_50_5, ↓mi_50_6, ↓mi_50_7, ↓mi_50_8, ↓mi_50_11, ↓mi_50_12, ↓mi_50_13, ↓mi_50_14, ↓mi_50_15, ↓mi_50_16, ↓mi_50_17, ↓mi_50_20, ↓mi_50_21, ↓mi_50_22, ↓mi_50_23, ↓mi_50_24, ↓mi_50_26, ↓mi_50_27, ↓mi_50_30, ↓mi_50_31, ↓mi_50_32, ↓mi_50_33, ↓mi_50_34, ↓mi_50_35, ↓mi_50_38, ↓mi_50_39, ↓mi_50_42, ↓mi_50_43, ↓mi_50_44, ↓mi_50_45, ↓mi_50_48, ↓mi_50_50, ↓mi_50_51, ↓mi_50_54, ↓mi_50_55, ↓mi_50_58, ↓mi_50_60, ↓mi_50_63, ↓mi_50_64, ↓mi_50_67, ↓mi_50_70, ↓mi_50_71, ↓mi_50_72, ↓mi_50_75, ↓mi_50_77, ↓mi_50_78, ↓mi_50_81, ↓mi_50_84, ↓mi_50_85, ↓mi_50_88, ↓mi_50_89, ↓mi_50_91, ↓mi_50_93, ↓mi_50_127, cond_true, mz_clv, mz_cln, Bool.false_or, Bool.true_or, Bool.or_false, Bool.or_true, if_true, if_false, ite_self, o0_43, o0_44, o0_56, hN, hS, hT, r0, r1, ex', na_up, na_eq, if_pos, if_neg]
    rfl
theorem sp_50n {u s n t S T a : Nat} (hu : u < 8) (hs : s < 3) (hn : n ≤ 8) (ht : t ≤ 8) (lS : S ≤ 4) (lT : T ≤ 4) (ha : a + 70 ≤ 4480) (hN : I 40 0 1 = nI n) (hTt : I 40 0 2 = nI t) (hS : I 43 0 u = nI S) (hT : I 44 0 u = nI T) (r0 : I 56 0 a = nI s) (r1 : I 56 0 (a + 1) = nI u) (eb : (decide (S = s + 1) && decide (T = s) && ms_gd n t s u (I 56 0 (a + 4)) (I 47 0 (3 * u + s - 1))) = false) : ms_G 50 0 [.ref (ms_ad 40 0), .int (nI a), .null, .null, .null, .null, .null] [] (ms_Z q false I J) = some (.inl (some (.int (ms_b false))), ms_Z q false I J) := by
  obtain ⟨l5, h⟩ := an_1 (q := q) (J := J) hu hs hn ht lS lT ha hN hTt hS hT r0 r1 eb.symm
  rw [h]
  simp (disch := omega) only [↓mi_50_129, ↓mi_50_132, ↓mi_50_133, ↓mi_50_133_1, ↓mi_50_133_b, if_pos b_f]
  rfl
theorem sp_50y {u s n t S T a : Nat} (hu : u < 8) (hs : s < 3) (hn : n ≤ 8) (ht : t ≤ 8) (lS : S ≤ 4) (lT : T ≤ 4) (ha : a + 70 ≤ 4480) (hN : I 40 0 1 = nI n) (hTt : I 40 0 2 = nI t) (hS : I 43 0 u = nI S) (hT : I 44 0 u = nI T) (r0 : I 56 0 a = nI s) (r1 : I 56 0 (a + 1) = nI u) (eb : (decide (S = s + 1) && decide (T = s) && ms_gd n t s u (I 56 0 (a + 4)) (I 47 0 (3 * u + s - 1))) = true) : ∃ I', ms_G 50 0 [.ref (ms_ad 40 0), .int (nI a), .null, .null, .null, .null, .null] [] (ms_Z q false I J) = some (.inl (some (.int (ms_b true))), ms_Z q true I' J) ∧ ms_tm I I' u s a T := by
  obtain ⟨l5, h⟩ := an_1 (q := q) (J := J) hu hs hn ht lS lT ha hN hTt hS hT r0 r1 eb.symm
  obtain ⟨I1, e1⟩ : ∃ I1, I1 = ms_u (ms_u I 44 0 (upd (I 44 0) u (nI (T + 1)))) 47 0 (upd (I 47 0) (3 * u + s) (I 56 0 (a + 4))) := ⟨_, rfl⟩
  have g1 : ∀ r u', r ≠ 44 → r ≠ 47 → I1 r u' = I r u' := fun r u' x y => by rw [e1, ms_u_r _ _ _ _ y, ms_u_r _ _ _ _ x]
  have st : ms_G 50 0 [.ref (ms_ad 40 0), .int (nI a), .null, .null, .null, .null, .null] [] (ms_Z q false I J) = ms_G 50 159 [.ref (ms_ad 40 0), .int (nI a), .int (nI s), .int (nI u), .int (I 56 0 (a + 4)), .int l5, .int (nI 0)] [] (ms_Z q true I1 J) := by
    rw [h]
    simp (disch := omega) only [↓mi_50_129, ↓mi_50_134, ↓mi_50_135, ↓mi_50_138, ↓mi_50_139, ↓mi_50_140, ↓mi_50_141, ↓mi_50_142, ↓mi_50_143, ↓mi_50_144, ↓mi_50_145, ↓mi_50_148, ↓mi_50_149, ↓mi_50_150, ↓mi_50_151, ↓mi_50_152, ↓mi_50_153, ↓mi_50_155, ↓mi_50_156, ↓mi_50_157, cond_true, mz_clv, mz_cln, Bool.false_or, Bool.true_or, Bool.or_false, Bool.or_true, if_true, if_false, ite_self, ms_u_s, ms_u_r, ms_u_i, ms_u_u, o0_44, o0_47, if_neg b_t, hT, na_up, pk_mul, ← e1]
  have f1 : ms_fq [44, 47, 48, 49] I I1 := by rw [e1]; exact fr_tr (fr_u rfl) (fr_u rfl)
  have e47 : I1 47 0 = upd (I 47 0) (3 * u + s) (I 56 0 (a + 4)) := by rw [e1, ms_u_s]
  have e44 : I1 44 0 = upd (I 44 0) u (nI (T + 1)) := by rw [e1, ms_u_r _ _ _ _ (by decide), ms_u_s]
  have c3 : s = 0 ∨ s = 1 ∨ s = 2 := by omega
  rcases c3 with hs0 | hs1 | hs2
  · subst hs0
    have L := ka_l (q := q) (I := I1) (J := J) hu ha (f := I1 48 0) (l4 := .int (I 56 0 (a + 4))) (y5 := l5) 32 0 rfl
    rw [ms_cc2_0, ms_u_id] at L
    refine ⟨ms_u I1 48 0 (ms_cc2 (32 * u) 32 (a + 5) (I1 56 0) (I1 48 0)), ?_, ?_, ?_, ?_, ?_, ?_, ?_, ?_⟩
    · rw [st, L]
      simp (disch := omega) only [↓mi_50_199, ↓mi_50_200, ↓mi_50_202, ↓mi_50_204, ↓mi_50_206, ↓mi_50_209, ↓mi_50_210, ↓mi_50_211, ↓mi_50_243, ↓mi_50_244, ↓mi_50_244_1, ↓mi_50_244_b, na_le, na_eq, if_neg]
      rfl
    · rw [ms_u_r _ _ _ _ (by decide), e47]
    · intro _ k hk
      rw [ms_u_s, cc2_in hk, g1 56 0 (by decide) (by decide)]
    · intro i hi
      rw [ms_u_s, cc2_out (by omega), g1 48 0 (by decide) (by decide)]
    · intro z
      omega
    · intro i _
      rw [ms_u_r _ _ _ _ (by decide), g1 49 0 (by decide) (by decide)]
    · rw [ms_u_r _ _ _ _ (by decide), e44]
    · exact fr_tr f1 (fr_u rfl)
  · subst hs1
    have L := kb_l (q := q) (I := I1) (J := J) hu ha (f := I1 49 0) (l4 := .int (I 56 0 (a + 4))) (y5 := l5) 64 0 rfl
    rw [ms_cc2_0, ms_u_id] at L
    refine ⟨ms_u I1 49 0 (ms_cc2 (64 * u) 64 (a + 5) (I1 56 0) (I1 49 0)), ?_, ?_, ?_, ?_, ?_, ?_, ?_, ?_⟩
    · rw [st]
      simp (disch := omega) only [↓mi_50_159, ↓mi_50_161, ↓mi_50_163, ↓mi_50_166, ↓mi_50_167, ↓mi_50_199, ↓mi_50_200, na_le, na_eq, if_neg]
      rw [L]
      simp (disch := omega) only [↓mi_50_243, ↓mi_50_244, ↓mi_50_244_1, ↓mi_50_244_b]
      rfl
    · rw [ms_u_r _ _ _ _ (by decide), e47]
    · intro z
      omega
    · intro i hi
      rw [ms_u_r _ _ _ _ (by decide), g1 48 0 (by decide) (by decide)]
    · intro _ k hk
      rw [ms_u_s, cc2_in hk, g1 56 0 (by decide) (by decide)]
    · intro i hi
      rw [ms_u_s, cc2_out (by omega), g1 49 0 (by decide) (by decide)]
    · rw [ms_u_r _ _ _ _ (by decide), e44]
    · exact fr_tr f1 (fr_u rfl)
  · subst hs2
    refine ⟨I1, ?_, e47, fun z => by omega, fun i _ => by rw [g1 48 0 (by decide) (by decide)], fun z => by omega, fun i _ => by rw [g1 49 0 (by decide) (by decide)], e44, f1⟩
    rw [st]
    simp (disch := omega) only [↓mi_50_159, ↓mi_50_161, ↓mi_50_163, ↓mi_50_166, ↓mi_50_167, ↓mi_50_199, ↓mi_50_200, ↓mi_50_202, ↓mi_50_204, ↓mi_50_206, ↓mi_50_209, ↓mi_50_210, ↓mi_50_211, ↓mi_50_243, ↓mi_50_244, ↓mi_50_244_1, ↓mi_50_244_b, na_le, na_eq, if_neg]
    rfl
end Ans
