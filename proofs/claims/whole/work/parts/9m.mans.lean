/-! THE SERVER'S ANSWERS, in the model. -/
section Mans
variable {q : Nat × Nat} {w : Bool} {I : ms_i} {J : ms_j} {σ : ms_M}
theorem ik_l {u a0 v : Nat} (ha : a0 + 66 < 4480) (hv : v < 8) {f : Nat → Int32} : ∀ d k, d + k = 4 → ms_G 57 72 [.ref (ms_ad 40 0), .int (nI 0), .int (nI u), .int (nI a0), .int (nI v), .int (nI k)] [] (ms_Z q true (ms_u I 56 0 (ms_cc2 (a0 + 1 + 4 * v) k (4 * v) (I 52 0) f)) J) = ms_G 57 116 [.ref (ms_ad 40 0), .int (nI 0), .int (nI u), .int (nI a0), .int (nI v), .int (nI 4)] [] (ms_Z q true (ms_u I 56 0 (ms_cc2 (a0 + 1 + 4 * v) 4 (4 * v) (I 52 0) f)) J)
  | 0, k, hk => by
    have : k = 4 := by omega
    subst this
    simp (disch := omega) only [↓mi_57_72, ↓mi_57_74, ↓mi_57_75, na_le, if_pos]
  | d + 1, k, hk => by
    have ih := ik_l (u := u) ha hv (f := f) d (k + 1) (by omega)
    have es := ms_cc2_s (a0 + 1 + 4 * v) k (4 * v) (I 52 0) f
    rw [mi_57_72]
    simp (disch := omega) only [↓mi_57_74, ↓mi_57_75, ↓mi_57_78, ↓mi_57_79, ↓mi_57_82, ↓mi_57_83, ↓mi_57_86, ↓mi_57_87, ↓mi_57_88, ↓mi_57_89, ↓mi_57_90, ↓mi_57_92, ↓mi_57_93, ↓mi_57_94, ↓mi_57_96, ↓mi_57_97, ↓mi_57_98, ↓mi_57_101, ↓mi_57_102, ↓mi_57_104, ↓mi_57_105, ↓mi_57_107, ↓mi_57_108, ↓mi_57_109, ↓mi_57_110, ↓mi_57_113, cond_true, mz_clv, mz_cln, Bool.false_or, Bool.true_or, Bool.or_false, Bool.or_true, if_true, if_false, ite_self, ms_u_s, ms_u_r, ms_u_i, ms_u_u, o0_52, o0_56, na_le, na_eq, na_up, pk_mul, if_neg, if_pos, es]
    exact ih
theorem ix_l {u a0 v : Nat} (ha : a0 + 66 < 4480) (hv : v < 8) (hu : u < 8) (hne : v ≠ u) {f : Nat → Int32} : ∀ d k, d + k = 8 → ms_G 57 119 [.ref (ms_ad 40 0), .int (nI 1), .int (nI u), .int (nI a0), .int (nI v), .int (nI k)] [] (ms_Z q true (ms_u I 56 0 (ms_cc2 (a0 + 1 + 8 * v) k (64 * v + 8 * u) (I 53 0) f)) J) = ms_G 57 178 [.ref (ms_ad 40 0), .int (nI 1), .int (nI u), .int (nI a0), .int (nI v), .int (nI 8)] [] (ms_Z q true (ms_u I 56 0 (ms_cc2 (a0 + 1 + 8 * v) 8 (64 * v + 8 * u) (I 53 0) f)) J)
  | 0, k, hk => by
    have : k = 8 := by omega
    subst this
    simp (disch := omega) only [↓mi_57_119, ↓mi_57_121, ↓mi_57_123, na_le, if_pos]
  | d + 1, k, hk => by
    have ih := ix_l ha hv hu hne (f := f) d (k + 1) (by omega)
    have es := ms_cc2_s (a0 + 1 + 8 * v) k (64 * v + 8 * u) (I 53 0) f
    rw [mi_57_119]
    simp (disch := omega) only [↓mi_57_121, ↓mi_57_123, ↓mi_57_126, ↓mi_57_127, ↓mi_57_128, ↓mi_57_131, ↓mi_57_133, ↓mi_57_134, ↓mi_57_137, ↓mi_57_138, ↓mi_57_141, ↓mi_57_142, ↓mi_57_143, ↓mi_57_144, ↓mi_57_146, ↓mi_57_148, ↓mi_57_149, ↓mi_57_150, ↓mi_57_152, ↓mi_57_153, ↓mi_57_154, ↓mi_57_157, ↓mi_57_159, ↓mi_57_161, ↓mi_57_162, ↓mi_57_164, ↓mi_57_165, ↓mi_57_166, ↓mi_57_167, ↓mi_57_169, ↓mi_57_170, ↓mi_57_171, ↓mi_57_172, ↓mi_57_175, cond_true, mz_clv, mz_cln, Bool.false_or, Bool.true_or, Bool.or_false, Bool.or_true, if_true, if_false, ite_self, ms_u_s, ms_u_r, ms_u_i, ms_u_u, o0_53, o0_56, na_le, na_eq, na_up, pk_mul, if_neg, if_pos, es]
    exact ih
theorem a0_l {u a0 n : Nat} {nm : Int32} (ha : a0 + 66 < 4480) (hn : n ≤ 8) : ∀ d v I, d + v = n → I 40 0 1 = nI n → I 50 0 0 = nm → ∃ I', (∀ l5, ms_G 57 43 [.ref (ms_ad 40 0), .int (nI 0), .int (nI u), .int (nI a0), .int (nI v), l5] [] (ms_Z q true I J) = some (.inl none, ms_Z q true I' J)) ∧ (∀ v', v ≤ v' → v' < n → ∀ j, j < 4 → I' 56 0 (a0 + 1 + 4 * v' + j) = if ms_bit nm v' = true then I 52 0 (4 * v' + j) else I 56 0 (a0 + 1 + 4 * v' + j)) ∧ (∀ i, i < a0 + 1 + 4 * v ∨ a0 + 1 + 4 * n ≤ i → I' 56 0 i = I 56 0 i) ∧ ms_fq [56] I I'
  | 0, v, I, hv, hN, hM => by
    have : v = n := by omega
    subst this
    refine ⟨I, ?_, fun v' a b => absurd a (by omega), fun _ _ => rfl, fr_rf⟩
    intro l5
    simp (disch := omega) only [↓mi_57_43, ↓mi_57_45, ↓mi_57_46, ↓mi_57_49, ↓mi_57_184, hN, na_le, if_pos]
  | d + 1, v, I, hv, hN, hM => by
    cases hc : ms_bit nm v with
    | false =>
      obtain ⟨I', r, a, b, c⟩ := a0_l (u := u) (nm := nm) ha hn d (v + 1) I (by omega) hN hM
      refine ⟨I', ?_, ?_, fun i hi => b i (by omega), c⟩
      · intro l5
        rw [mi_57_43]
        simp (disch := omega) only [↓mi_57_45, ↓mi_57_46, ↓mi_57_49, ↓mi_57_52, ↓mi_57_53, ↓mi_57_56, ↓mi_57_57, ↓mi_57_58, ↓mi_57_60, ↓mi_57_63, ↓mi_57_66, ↓mi_57_178, ↓mi_57_181, cond_true, mz_clv, mz_cln, Bool.false_or, Bool.true_or, Bool.or_false, Bool.or_true, if_true, if_false, ite_self, o0_50, hN, hM, na_le, na_up, if_neg, sp_42, hc, if_pos b_f]
        exact r _
      · intro v' a1 a2 j hj
        by_cases e : v' = v
        · subst e
          rw [b _ (by omega), hc]
          rfl
        · exact a v' (by omega) a2 j hj
    | true =>
      have L := ik_l (q := q) (I := I) (J := J) (u := u) (v := v) ha (by omega) (f := I 56 0) 4 0 rfl
      rw [ms_cc2_0, ms_u_id] at L
      obtain ⟨I1, e1⟩ : ∃ I1, I1 = ms_u I 56 0 (ms_cc2 (a0 + 1 + 4 * v) 4 (4 * v) (I 52 0) (I 56 0)) := ⟨_, rfl⟩
      rw [← e1] at L
      have f1 : ms_fq [56] I I1 := by rw [e1]; exact fr_u rfl
      obtain ⟨I', r, a, b, c⟩ := a0_l (u := u) (nm := nm) ha hn d (v + 1) I1 (by omega) (by rw [fr_at f1 40 rfl 0]; exact hN) (by rw [fr_at f1 50 rfl 0]; exact hM)
      refine ⟨I', ?_, ?_, ?_, fr_tr f1 c⟩
      · intro l5
        rw [mi_57_43]
        simp (disch := omega) only [↓mi_57_45, ↓mi_57_46, ↓mi_57_49, ↓mi_57_52, ↓mi_57_53, ↓mi_57_56, ↓mi_57_57, ↓mi_57_58, ↓mi_57_60, ↓mi_57_63, ↓mi_57_66, ↓mi_57_69, ↓mi_57_70, cond_true, mz_clv, mz_cln, Bool.false_or, Bool.true_or, Bool.or_false, Bool.or_true, if_true, if_false, ite_self, o0_50, hN, hM, na_le, na_up, if_neg, sp_42, hc, if_neg b_t]
        rw [L]
        simp (disch := omega) only [↓mi_57_116, ↓mi_57_117, ↓mi_57_119, ↓mi_57_121, ↓mi_57_123, ↓mi_57_126, ↓mi_57_127, ↓mi_57_128, ↓mi_57_178, ↓mi_57_181, na_le, na_eq, na_up, if_neg]
        exact r _
      · intro v' a1 a2 j hj
        by_cases e : v' = v
        · subst e
          rw [b _ (by omega), if_pos hc, e1, ms_u_s, cc2_in hj]
        · rw [a v' (by omega) a2 j hj, fr_at f1 52 rfl 0, e1, ms_u_s, cc2_out (by omega)]
      · intro i hi
        rw [b i (by omega), e1, ms_u_s, cc2_out (by omega)]
theorem a1_l {u a0 n : Nat} {nm : Int32} (ha : a0 + 66 < 4480) (hn : n ≤ 8) (hu : u < 8) : ∀ d v I, d + v = n → I 40 0 1 = nI n → I 50 0 1 = nm → ∃ I', (∀ l5, ms_G 57 43 [.ref (ms_ad 40 0), .int (nI 1), .int (nI u), .int (nI a0), .int (nI v), l5] [] (ms_Z q true I J) = some (.inl none, ms_Z q true I' J)) ∧ (∀ v', v ≤ v' → v' < n → ∀ j, j < 8 → I' 56 0 (a0 + 1 + 8 * v' + j) = if v' ≠ u ∧ ms_bit nm v' = true then I 53 0 (64 * v' + 8 * u + j) else I 56 0 (a0 + 1 + 8 * v' + j)) ∧ (∀ i, i < a0 + 1 + 8 * v ∨ a0 + 1 + 8 * n ≤ i → I' 56 0 i = I 56 0 i) ∧ ms_fq [56] I I'
  | 0, v, I, hv, hN, hM => by
    have : v = n := by omega
    subst this
    refine ⟨I, ?_, fun v' a b => absurd a (by omega), fun _ _ => rfl, fr_rf⟩
    intro l5
    simp (disch := omega) only [↓mi_57_43, ↓mi_57_45, ↓mi_57_46, ↓mi_57_49, ↓mi_57_184, hN, na_le, if_pos]
  | d + 1, v, I, hv, hN, hM => by
    by_cases hskip : v = u ∨ ms_bit nm v = false
    · obtain ⟨I', r, a, b, c⟩ := a1_l (u := u) (nm := nm) ha hn hu d (v + 1) I (by omega) hN hM
      refine ⟨I', ?_, ?_, fun i hi => b i (by omega), c⟩
      · intro l5
        rw [mi_57_43]
        cases hc : ms_bit nm v with
        | false =>
          simp (disch := omega) only [↓mi_57_45, ↓mi_57_46, ↓mi_57_49, ↓mi_57_52, ↓mi_57_53, ↓mi_57_56, ↓mi_57_57, ↓mi_57_58, ↓mi_57_60, ↓mi_57_63, ↓mi_57_66, ↓mi_57_178, ↓mi_57_181, cond_true, mz_clv, mz_cln, Bool.false_or, Bool.true_or, Bool.or_false, Bool.or_true, if_true, if_false, ite_self, o0_50, hN, hM, na_le, na_up, if_neg, sp_42, hc, if_pos b_f]
          exact r _
        | true =>
          have hvu : v = u := by
            rcases hskip with h | h
            · exact h
            · rw [h] at hc; cases hc
          simp (disch := omega) only [↓mi_57_45, ↓mi_57_46, ↓mi_57_49, ↓mi_57_52, ↓mi_57_53, ↓mi_57_56, ↓mi_57_57, ↓mi_57_58, ↓mi_57_60, ↓mi_57_63, ↓mi_57_66, ↓mi_57_69, ↓mi_57_70, ↓mi_57_72, ↓mi_57_74, ↓mi_57_75, ↓mi_57_78, ↓mi_57_79, ↓mi_57_116, ↓mi_57_117, ↓mi_57_119, ↓mi_57_121, ↓mi_57_123, ↓mi_57_126, ↓mi_57_127, ↓mi_57_128, ↓mi_57_131, ↓mi_57_133, ↓mi_57_134, ↓mi_57_178, ↓mi_57_181, cond_true, mz_clv, mz_cln, Bool.false_or, Bool.true_or, Bool.or_false, Bool.or_true, if_true, if_false, ite_self, o0_50, hN, hM, na_le, na_eq, na_up, if_neg, if_pos, if_pos hvu, sp_42, hc, if_neg b_t]
          exact r _
      · intro v' a1 a2 j hj
        by_cases e : v' = v
        · subst e
          rw [b _ (by omega), if_neg (fun z => by
            rcases hskip with h | h
            · exact z.1 h
            · rw [h] at z; cases z.2)]
        · exact a v' (by omega) a2 j hj
    · have hvu : v ≠ u := fun z => hskip (Or.inl z)
      have hc : ms_bit nm v = true := by
        cases h : ms_bit nm v with
        | true => rfl
        | false => exact absurd (Or.inr h) hskip
      have L := ix_l (q := q) (I := I) (J := J) (u := u) (v := v) ha (by omega) hu hvu (f := I 56 0) 8 0 rfl
      rw [ms_cc2_0, ms_u_id] at L
      obtain ⟨I1, e1⟩ : ∃ I1, I1 = ms_u I 56 0 (ms_cc2 (a0 + 1 + 8 * v) 8 (64 * v + 8 * u) (I 53 0) (I 56 0)) := ⟨_, rfl⟩
      rw [← e1] at L
      have f1 : ms_fq [56] I I1 := by rw [e1]; exact fr_u rfl
      obtain ⟨I', r, a, b, c⟩ := a1_l (u := u) (nm := nm) ha hn hu d (v + 1) I1 (by omega) (by rw [fr_at f1 40 rfl 0]; exact hN) (by rw [fr_at f1 50 rfl 0]; exact hM)
      refine ⟨I', ?_, ?_, ?_, fr_tr f1 c⟩
      · intro l5
        rw [mi_57_43]
        simp (disch := omega) only [↓mi_57_45, ↓mi_57_46, ↓mi_57_49, ↓mi_57_52, ↓mi_57_53, ↓mi_57_56, ↓mi_57_57, ↓mi_57_58, ↓mi_57_60, ↓mi_57_63, ↓mi_57_66, ↓mi_57_69, ↓mi_57_70, ↓mi_57_72, ↓mi_57_74, ↓mi_57_75, ↓mi_57_78, ↓mi_57_79, ↓mi_57_116, ↓mi_57_117, cond_true, mz_clv, mz_cln, Bool.false_or, Bool.true_or, Bool.or_false, Bool.or_true, if_true, if_false, ite_self, o0_50, hN, hM, na_le, na_eq, na_up, if_neg, sp_42, hc, if_neg b_t]
        rw [L]
        simp (disch := omega) only [↓mi_57_178, ↓mi_57_181, na_up]
        exact r _
      · intro v' a1 a2 j hj
        by_cases e : v' = v
        · subst e
          rw [b _ (by omega), if_pos ⟨hvu, hc⟩, e1, ms_u_s, cc2_in hj]
        · rw [a v' (by omega) a2 j hj, fr_at f1 53 rfl 0, e1, ms_u_s, cc2_out (by omega)]
      · intro i hi
        rw [b i (by omega), e1, ms_u_s, cc2_out (by omega)]
theorem a2_l {u a0 n : Nat} (hn : n ≤ 8) (hN : I 40 0 1 = nI n) : ∀ d v l5, d + v = n → ms_G 57 43 [.ref (ms_ad 40 0), .int (nI 2), .int (nI u), .int (nI a0), .int (nI v), l5] [] (ms_Z q true I J) = some (.inl none, ms_Z q true I J)
  | 0, v, l5, hv => by
    have : v = n := by omega
    subst this
    simp (disch := omega) only [↓mi_57_43, ↓mi_57_45, ↓mi_57_46, ↓mi_57_49, ↓mi_57_184, hN, na_le, if_pos]
  | d + 1, v, l5, hv => by
    have ih := fun l5 => a2_l (u := u) (a0 := a0) hn hN d (v + 1) l5 (by omega)
    rw [mi_57_43]
    cases hc : ms_bit (I 50 0 2) v with
    | false =>
      simp (disch := omega) only [↓mi_57_45, ↓mi_57_46, ↓mi_57_49, ↓mi_57_52, ↓mi_57_53, ↓mi_57_56, ↓mi_57_57, ↓mi_57_58, ↓mi_57_60, ↓mi_57_63, ↓mi_57_66, ↓mi_57_178, ↓mi_57_181, cond_true, mz_clv, mz_cln, Bool.false_or, Bool.true_or, Bool.or_false, Bool.or_true, if_true, if_false, ite_self, o0_50, hN, na_le, na_up, if_neg, sp_42, hc, if_pos b_f]
      exact ih _
    | true =>
      simp (disch := omega) only [↓mi_57_45, ↓mi_57_46, ↓mi_57_49, ↓mi_57_52, ↓mi_57_53, ↓mi_57_56, ↓mi_57_57, ↓mi_57_58, ↓mi_57_60, ↓mi_57_63, ↓mi_57_66, ↓mi_57_69, ↓mi_57_70, ↓mi_57_72, ↓mi_57_74, ↓mi_57_75, ↓mi_57_78, ↓mi_57_79, ↓mi_57_116, ↓mi_57_117, ↓mi_57_119, ↓mi_57_121, ↓mi_57_123, ↓mi_57_126, ↓mi_57_127, ↓mi_57_128, ↓mi_57_178, ↓mi_57_181, cond_true, mz_clv, mz_cln, Bool.false_or, Bool.true_or, Bool.or_false, Bool.or_true, if_true, if_false, ite_self, o0_50, hN, na_le, na_eq, na_up, if_neg, sp_42, hc, if_neg b_t]
      exact ih _
theorem sp_57 {s u m n : Nat} {nm : Int32} {ky bx : Nat → Nat → Int32} (hs : s < 3) (hu : u < 8) (hn : n ≤ 8) (hm : m < 56) (hS : I 40 0 20 = nI m) (hN : I 40 0 1 = nI n) (hM : I 50 0 s = nm) (hK : ∀ v, v < 8 → ∀ j, j < 4 → I 52 0 (4 * v + j) = ky v j) (hB : ∀ v, v < 8 → ∀ j, j < 64 → I 53 0 (64 * v + j) = bx v j) (hb : ∀ v, n ≤ v → v < 8 → ms_bit nm v = false) : ∃ I', ms_G 57 0 [.ref (ms_ad 40 0), .int (nI s), .int (nI u), .null, .null, .null] [] (ms_Z q false I J) = some (.inl none, ms_Z q true I' J) ∧ (∀ i, i < ms_wl (7 * u + 4 + s) → I' 56 0 (70 * m + 4 + i) = ms_an s u nm ky bx i) ∧ (∀ i, i < 70 * m + 4 → I' 56 0 i = ms_po m s u 1 (ms_wl (7 * u + 4 + s)) (I 56 0) i) ∧ I' 40 0 = upd (I 40 0) 20 (nI (m + 1)) ∧ ms_fq [40, 56] I I' := by
  obtain ⟨L, eL⟩ : ∃ L, L = ms_wl (7 * u + 4 + s) := ⟨_, rfl⟩
  have lL := ms_wl_le (7 * u + 4 + s)
  have lw := wl_pos (u := u) hs
  rw [← eL] at lL lw ⊢
  have p1 := sp_40 (q := q) (I := I) (J := J) (s := s) (u := u) (b := 1) (l := L) hm (by decide) hS
  obtain ⟨I1, e1⟩ : ∃ I1, I1 = ms_u (ms_u I 56 0 (ms_po m s u 1 L (I 56 0))) 40 0 (upd (I 40 0) 20 (nI (m + 1))) := ⟨_, rfl⟩
  rw [← e1] at p1
  obtain ⟨I2, e2⟩ : ∃ I2, I2 = ms_u I1 56 0 (upd (I1 56 0) (70 * m + 4) nm) := ⟨_, rfl⟩
  have f1 : ms_fq [40, 56] I I1 := by rw [e1]; exact fr_tr (fr_u rfl) (fr_u rfl)
  have f2 : ms_fq [40, 56] I I2 := fr_tr f1 (by rw [e2]; exact fr_u rfl)
  have y56 : I1 56 0 = ms_po m s u 1 L (I 56 0) := by rw [e1, ms_u_r _ _ _ _ (by decide), ms_u_s]
  have y40 : I2 40 0 = upd (I 40 0) 20 (nI (m + 1)) := by rw [e2, ms_u_r _ _ _ _ (by decide), e1, ms_u_s]
  have yN : I2 40 0 1 = nI n := by rw [y40, pk_un (by decide)]; exact hN
  have yM : I2 50 0 s = nm := by rw [fr_at f2 50 rfl 0]; exact hM
  have m1 : I1 50 0 s = nm := by rw [fr_at f1 50 rfl 0]; exact hM
  have z0 : I2 56 0 (70 * m + 4) = nm := by rw [e2, ms_u_s, pk_us]
  have zz : ∀ i, 0 < i → i < 66 → I2 56 0 (70 * m + 4 + i) = nI 0 := fun i h1 h2 => by rw [e2, ms_u_s, pk_un (by omega), y56, po_z h2]
  have zh : ∀ i, i < 70 * m + 4 → I2 56 0 i = ms_po m s u 1 L (I 56 0) i := fun i hi => by rw [e2, ms_u_s, pk_un (by omega), y56]
  have c3 : s = 0 ∨ s = 1 ∨ s = 2 := by omega
  rcases c3 with h | h | h
  · have hl : L = 33 := by rw [eL, Nat.add_assoc]; exact wl_4 (by omega)
    subst h
    obtain ⟨I3, r3, a3, b3, c3⟩ := a0_l (q := q) (J := J) (u := u) (a0 := 70 * m + 4) (nm := nm) (by omega) hn n 0 I2 rfl yN yM
    rw [hl] at p1
    refine ⟨I3, ?_, ?_, ?_, ?_, fr_tr f2 (fr_up c3 rfl)⟩
    · simp (disch := omega) only [↓mi_57_0, ↓mi_57_1, ↓mi_57_2, ↓mi_57_3, ↓mi_57_4, ↓mi_57_5, ↓mi_57_8, ↓mi_57_10, ↓mi_57_24, ↓mi_57_27, ↓mi_57_28, ↓mi_57_29, ↓mi_57_32, ↓mi_57_33, ↓mi_57_34, ↓mi_57_37, ↓mi_57_38, ↓mi_57_39, ↓mi_57_40, ↓mi_57_41, cond_true, mz_clv, mz_cln, Bool.false_or, Bool.true_or, Bool.or_false, Bool.or_true, if_true, if_false, ite_self, o0_50, o0_56, na_eq, if_pos, p1, m1, ← e2]
      exact r3 _
    · intro i hi
      unfold ms_an
      by_cases h0 : i = 0
      · rw [if_pos h0, h0, b3 _ (by omega)]
        exact z0
      · rw [if_neg h0, if_pos rfl]
        by_cases hv : (i - 1) / 4 < n
        · have := a3 ((i - 1) / 4) (by omega) hv ((i - 1) % 4) (by omega)
          rw [show 70 * m + 4 + 1 + 4 * ((i - 1) / 4) + (i - 1) % 4 = 70 * m + 4 + i by omega] at this
          rw [this, fr_at f2 52 rfl 0, hK _ (by omega) _ (by omega), zz i (by omega) (by omega)]
        · rw [b3 _ (by omega), zz i (by omega) (by omega), hb _ (by omega) (by omega)]
          rfl
    · intro i hi
      rw [b3 _ (by omega), zh i hi]
    · rw [fr_at c3 40 rfl 0, y40]
  · have hl : L = 65 := by rw [eL, Nat.add_assoc]; exact wl_5 (by omega)
    subst h
    obtain ⟨I3, r3, a3, b3, c3⟩ := a1_l (q := q) (J := J) (u := u) (a0 := 70 * m + 4) (nm := nm) (by omega) hn hu n 0 I2 rfl yN yM
    rw [hl] at p1
    refine ⟨I3, ?_, ?_, ?_, ?_, fr_tr f2 (fr_up c3 rfl)⟩
    · simp (disch := omega) only [↓mi_57_0, ↓mi_57_1, ↓mi_57_2, ↓mi_57_3, ↓mi_57_4, ↓mi_57_5, ↓mi_57_13, ↓mi_57_14, ↓mi_57_15, ↓mi_57_18, ↓mi_57_20, ↓mi_57_24, ↓mi_57_27, ↓mi_57_28, ↓mi_57_29, ↓mi_57_32, ↓mi_57_33, ↓mi_57_34, ↓mi_57_37, ↓mi_57_38, ↓mi_57_39, ↓mi_57_40, ↓mi_57_41, cond_true, mz_clv, mz_cln, Bool.false_or, Bool.true_or, Bool.or_false, Bool.or_true, if_true, if_false, ite_self, o0_50, o0_56, na_eq, if_pos, if_neg, p1, m1, ← e2]
      exact r3 _
    · intro i hi
      unfold ms_an
      by_cases h0 : i = 0
      · rw [if_pos h0, h0, b3 _ (by omega)]
        exact z0
      · rw [if_neg h0, if_neg (by decide)]
        by_cases hv : (i - 1) / 8 < n
        · have := a3 ((i - 1) / 8) (by omega) hv ((i - 1) % 8) (by omega)
          rw [show 70 * m + 4 + 1 + 8 * ((i - 1) / 8) + (i - 1) % 8 = 70 * m + 4 + i by omega] at this
          rw [this, fr_at f2 53 rfl 0, Nat.add_assoc, hB _ (by omega) _ (by omega), zz i (by omega) (by omega)]
        · rw [b3 _ (by omega), zz i (by omega) (by omega), if_neg (fun z => by rw [hb _ (by omega) (by omega)] at z; cases z.2)]
    · intro i hi
      rw [b3 _ (by omega), zh i hi]
    · rw [fr_at c3 40 rfl 0, y40]
  · have hl : L = 1 := by rw [eL, Nat.add_assoc]; exact wl_6 (by omega)
    subst h
    have r3 := a2_l (q := q) (I := I2) (J := J) (u := u) (a0 := 70 * m + 4) hn yN n 0 .null rfl
    rw [hl] at p1
    refine ⟨I2, ?_, ?_, zh, y40, f2⟩
    · simp (disch := omega) only [↓mi_57_0, ↓mi_57_1, ↓mi_57_2, ↓mi_57_3, ↓mi_57_4, ↓mi_57_5, ↓mi_57_13, ↓mi_57_14, ↓mi_57_15, ↓mi_57_23, ↓mi_57_24, ↓mi_57_27, ↓mi_57_28, ↓mi_57_29, ↓mi_57_32, ↓mi_57_33, ↓mi_57_34, ↓mi_57_37, ↓mi_57_38, ↓mi_57_39, ↓mi_57_40, ↓mi_57_41, cond_true, mz_clv, mz_cln, Bool.false_or, Bool.true_or, Bool.or_false, Bool.or_true, if_true, if_false, ite_self, o0_50, o0_56, na_eq, if_neg, p1, m1, ← e2]
      exact r3
    · intro i hi
      unfold ms_an
      rw [if_pos (by omega), show i = 0 by omega]
      exact z0
theorem ax_l {s m n : Nat} {nm x : Int32} {ky bx : Nat → Nat → Int32} (hs : s < 3) (hn : n ≤ 8) (hm : m ≤ 48) (hb : ∀ v, n ≤ v → v < 8 → ms_bit nm v = false) : ∀ d u I, d + u = n → I 40 0 20 = nI (m + ms_ct x u) → I 40 0 1 = nI n → I 50 0 s = nm → I 50 0 (if s = 2 then 1 else s) = x → (∀ v, v < 8 → ∀ j, j < 4 → I 52 0 (4 * v + j) = ky v j) → (∀ v, v < 8 → ∀ j, j < 64 → I 53 0 (64 * v + j) = bx v j) → ∃ I', ms_G 60 137 [.ref (ms_ad 40 0), .int (nI s), .int (nI u)] [] (ms_Z q true I J) = ms_G 60 179 [.ref (ms_ad 40 0), .int (nI s), .int (nI n)] [] (ms_Z q true I' J) ∧ I' 40 0 20 = nI (m + ms_ct x n) ∧ (∀ k, k ≠ 20 → I' 40 0 k = I 40 0 k) ∧ (∀ v, u ≤ v → v < n → ms_bit x v = true → (∀ i, i < ms_wl (7 * v + 4 + s) → I' 56 0 (70 * (m + ms_ct x v) + 4 + i) = ms_an s v nm ky bx i) ∧ I' 56 0 (70 * (m + ms_ct x v)) = nI s ∧ I' 56 0 (70 * (m + ms_ct x v) + 1) = nI v ∧ I' 56 0 (70 * (m + ms_ct x v) + 2) = nI 1 ∧ I' 56 0 (70 * (m + ms_ct x v) + 3) = nI (ms_wl (7 * v + 4 + s))) ∧ (∀ i, i < 70 * (m + ms_ct x u) → I' 56 0 i = I 56 0 i) ∧ ms_fq [40, 56] I I'
  | 0, u, I, hu, h20, hN, hM, hX, hK, hB => by
    have : u = n := by omega
    subst this
    refine ⟨I, ?_, h20, fun _ _ => rfl, fun v a b => absurd a (by omega), fun _ _ => rfl, fr_rf⟩
    simp (disch := omega) only [↓mi_60_137, ↓mi_60_138, ↓mi_60_139, ↓mi_60_142, hN, na_le, if_pos]
  | d + 1, u, I, hu, h20, hN, hM, hX, hK, hB => by
    have eC : ms_ct x (u + 1) = if ms_bit x u = true then ms_ct x u + 1 else ms_ct x u := rfl
    have lc := ct_le x u
    have pre : ms_G 60 137 [.ref (ms_ad 40 0), .int (nI s), .int (nI u)] [] (ms_Z q true I J) = ms_G 60 160 [.ref (ms_ad 40 0), .int (nI s), .int (nI u)] [.int x] (ms_Z q true I J) := by
      by_cases h2 : s = 2
      · rw [if_pos h2] at hX
        rw [mi_60_137]
        simp (disch := omega) only [↓mi_60_138, ↓mi_60_139, ↓mi_60_142, ↓mi_60_145, ↓mi_60_146, ↓mi_60_149, ↓mi_60_150, ↓mi_60_151, ↓mi_60_154, ↓mi_60_155, ↓mi_60_158, ↓mi_60_159, cond_true, mz_clv, mz_cln, Bool.false_or, Bool.true_or, Bool.or_false, Bool.or_true, if_true, if_false, ite_self, o0_50, hN, na_le, na_eq, if_neg, if_pos h2, hX]
      · rw [if_neg h2] at hX
        rw [mi_60_137]
        simp (disch := omega) only [↓mi_60_138, ↓mi_60_139, ↓mi_60_142, ↓mi_60_145, ↓mi_60_146, ↓mi_60_149, ↓mi_60_150, ↓mi_60_151, ↓mi_60_154, ↓mi_60_155, ↓mi_60_158, ↓mi_60_159, cond_true, mz_clv, mz_cln, Bool.false_or, Bool.true_or, Bool.or_false, Bool.or_true, if_true, if_false, ite_self, o0_50, hN, na_le, na_eq, if_neg, if_neg h2, hX]
    cases hc : ms_bit x u with
    | false =>
      have eC2 : ms_ct x (u + 1) = ms_ct x u := by rw [eC, hc]; rfl
      obtain ⟨I', r, a, b, c, e, f⟩ := ax_l (nm := nm) (x := x) (ky := ky) (bx := bx) hs hn hm hb d (u + 1) I (by omega) (by rw [eC2]; exact h20) hN hM hX hK hB
      rw [eC2] at e
      refine ⟨I', ?_, a, b, fun v z1 z2 z3 => c v (by
        rcases Nat.lt_or_ge u v with z | z
        · exact z
        · have : v = u := by omega
          rw [this, hc] at z3
          cases z3) z2 z3, e, f⟩
      rw [pre]
      simp (disch := omega) only [↓mi_60_160, ↓mi_60_161, ↓mi_60_164, ↓mi_60_173, ↓mi_60_176, cond_true, mz_clv, mz_cln, Bool.false_or, Bool.true_or, Bool.or_false, Bool.or_true, if_true, if_false, ite_self, na_up, sp_42, hc, if_pos b_f]
      exact r
    | true =>
      have eC2 : ms_ct x (u + 1) = ms_ct x u + 1 := by rw [eC, hc]; rfl
      obtain ⟨I1, r1, a1, b1, c1, f1⟩ := sp_57 (q := q) (I := I) (J := J) (s := s) (u := u) (m := m + ms_ct x u) (nm := nm) (ky := ky) (bx := bx) hs (by omega) hn (by omega) h20 hN hM hK hB hb
      obtain ⟨I', r, a, b, c, e, f⟩ := ax_l (nm := nm) (x := x) (ky := ky) (bx := bx) hs hn hm hb d (u + 1) I1 (by omega) (by rw [c1, pk_us, eC2, Nat.add_assoc]) (by rw [c1, pk_un (by decide)]; exact hN) (by rw [fr_at f1 50 rfl 0]; exact hM) (by rw [fr_at f1 50 rfl 0]; exact hX) (fun v hv j hj => by rw [fr_at f1 52 rfl 0]; exact hK v hv j hj) (fun v hv j hj => by rw [fr_at f1 53 rfl 0]; exact hB v hv j hj)
      have lL := ms_wl_le (7 * u + 4 + s)
      rw [eC2] at e
      refine ⟨I', ?_, a, ?_, ?_, ?_, fr_tr f1 f⟩
      · rw [pre]
        simp (disch := omega) only [↓mi_60_160, ↓mi_60_161, ↓mi_60_164, ↓mi_60_167, ↓mi_60_168, ↓mi_60_169, ↓mi_60_170, ↓mi_60_173, ↓mi_60_176, cond_true, mz_clv, mz_cln, Bool.false_or, Bool.true_or, Bool.or_false, Bool.or_true, if_true, if_false, ite_self, na_up, sp_42, hc, if_neg b_t, r1]
        exact r
      · intro k hk
        rw [b k hk, c1, pk_un hk]
      · intro v z1 z2 z3
        by_cases ev : v = u
        · subst ev
          refine ⟨fun i hi => ?_, ?_, ?_, ?_, ?_⟩
          · rw [e _ (by omega)]
            exact a1 i hi
          · rw [e _ (by omega), b1 _ (by omega), po_0]
          · rw [e _ (by omega), b1 _ (by omega), po_1]
          · rw [e _ (by omega), b1 _ (by omega), po_2]
          · rw [e _ (by omega), b1 _ (by omega), po_3]
        · exact c v (by omega) z2 z3
      · intro i hi
        rw [e i (by omega), b1 i (by omega), po_o (by omega)]
end Mans
