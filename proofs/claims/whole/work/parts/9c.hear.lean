/-! A MESSAGE IS HEARD. -/
def ms_awt (g : Nat) (n0 n1 : Int32) (u : Nat) : Bool := if g = 0 then true else if g = 1 then ms_bit n0 u else ms_bit n1 u
def ms_hr (I I' : ms_i) (u s p : Nat) : Prop := (∀ k, k < ms_wl p → I' (22 + 2 * s) u k = I 18 p k) ∧ I' 19 0 = upd (I 19 0) 4 (I 19 0 4 ||| nI 1 <<< (nI u &&& 31)) ∧ (∀ r u', (r ≠ 22 + 2 * s ∨ u' ≠ u) → r ≠ 19 → I' r u' = I r u')
def ms_hl (s : Nat) : Nat := if s = 0 then 4 else if s = 1 then 64 else if s = 2 then 4 else 17
def ms_hm (I I' : ms_i) (u s a : Nat) : Prop := (∀ k, k < ms_hl s → I' (52 + s) 0 (ms_hl s * u + k) = I 56 0 (a + 4 + k)) ∧ (∀ i, i < ms_hl s * u ∨ ms_hl s * u + ms_hl s ≤ i → I' (52 + s) 0 i = I (52 + s) 0 i) ∧ I' 51 0 = upd (I 51 0) s (I 51 0 s ||| nI 1 <<< (nI u &&& 31)) ∧ (∀ r u', r ≠ 51 → r ≠ 52 + s → I' r u' = I r u')
section Hear
variable {q : Nat × Nat} {w : Bool} {I : ms_i} {J : ms_j} {σ : ms_M}
theorem sp_120 {g u : Nat} (hu : u < 8) (hg : g < 4) (hG : I 19 0 2 = nI g) : ms_G 120 0 [.ref (ms_ad 19 0), .int (nI u)] [] (ms_Z q false I J) = some (.inl (some (.int (ms_b (ms_awt g (I 20 0 0) (I 20 0 1) u)))), ms_Z q false I J) := by
  have c : g = 0 ∨ g = 1 ∨ g = 2 ∨ g = 3 := by omega
  rcases c with h | h | h | h
  · subst h
    simp (disch := omega) only [↓mi_120_0, ↓mi_120_1, ↓mi_120_4_c0, ↓mi_120_4_c1, ↓mi_120_4_d, ↓mi_120_32, ↓mi_120_33, ↓mi_120_33_1, ↓mi_120_33_b, hG]
    rfl
  · subst h
    simp (disch := omega) only [↓mi_120_0, ↓mi_120_1, ↓mi_120_4_c0, ↓mi_120_4_c1, ↓mi_120_4_d, ↓mi_120_34, ↓mi_120_35, ↓mi_120_38, ↓mi_120_39, ↓mi_120_40, ↓mi_120_41, mi_120_44_b, cond_true, mz_clv, mz_cln, Bool.false_or, Bool.true_or, Bool.or_false, Bool.or_true, if_true, if_false, ite_self, o0_20, hG, sp_15]
    rfl
  · subst h
    have d : ∀ L S σ, ms_G 120 4 L (.int (nI 2) :: S) σ = ms_G 120 45 L S σ := fun L S σ => mi_120_4_d (by decide)
    simp (disch := omega) only [↓mi_120_0, ↓mi_120_1, d, ↓mi_120_45, ↓mi_120_46, ↓mi_120_49, ↓mi_120_50, ↓mi_120_51, ↓mi_120_52, mi_120_55_b, cond_true, mz_clv, mz_cln, Bool.false_or, Bool.true_or, Bool.or_false, Bool.or_true, if_true, if_false, ite_self, o0_20, hG, sp_15]
    rfl
  · subst h
    have d : ∀ L S σ, ms_G 120 4 L (.int (nI 3) :: S) σ = ms_G 120 45 L S σ := fun L S σ => mi_120_4_d (by decide)
    simp (disch := omega) only [↓mi_120_0, ↓mi_120_1, d, ↓mi_120_45, ↓mi_120_46, ↓mi_120_49, ↓mi_120_50, ↓mi_120_51, ↓mi_120_52, mi_120_55_b, cond_true, mz_clv, mz_cln, Bool.false_or, Bool.true_or, Bool.or_false, Bool.or_true, if_true, if_false, ite_self, o0_20, hG, sp_15]
    rfl
theorem sp_121 {g u : Nat} (hu : u < 8) (hg : g < 4) (hG : I 19 0 2 = nI g) : ms_G 121 0 [.ref (ms_ad 19 0), .int (nI u)] [] (ms_Z q false I J) = some (.inl (some (.ref (ms_ad (22 + 2 * g) u))), ms_Z q false I J) := by
  have c : g = 0 ∨ g = 1 ∨ g = 2 ∨ g = 3 := by omega
  rcases c with h | h | h | h
  · subst h
    simp (disch := omega) only [↓mi_121_0, ↓mi_121_1, ↓mi_121_4_c0, ↓mi_121_4_c1, ↓mi_121_4_c2, ↓mi_121_4_d, ↓mi_121_32, ↓mi_121_33, ↓mi_121_36, ↓mi_121_37, ↓mi_121_38, cond_true, mz_clv, mz_cln, Bool.false_or, Bool.true_or, Bool.or_false, Bool.or_true, if_true, if_false, ite_self, o2_21, er_21, hG]
  · subst h
    simp (disch := omega) only [↓mi_121_0, ↓mi_121_1, ↓mi_121_4_c0, ↓mi_121_4_c1, ↓mi_121_4_c2, ↓mi_121_4_d, ↓mi_121_39, ↓mi_121_40, ↓mi_121_43, ↓mi_121_44, ↓mi_121_45, cond_true, mz_clv, mz_cln, Bool.false_or, Bool.true_or, Bool.or_false, Bool.or_true, if_true, if_false, ite_self, o2_23, er_23, hG]
  · subst h
    simp (disch := omega) only [↓mi_121_0, ↓mi_121_1, ↓mi_121_4_c0, ↓mi_121_4_c1, ↓mi_121_4_c2, ↓mi_121_4_d, ↓mi_121_46, ↓mi_121_47, ↓mi_121_50, ↓mi_121_51, ↓mi_121_52, cond_true, mz_clv, mz_cln, Bool.false_or, Bool.true_or, Bool.or_false, Bool.or_true, if_true, if_false, ite_self, o2_25, er_25, hG]
  · subst h
    have d : ∀ L S σ, ms_G 121 4 L (.int (nI 3) :: S) σ = ms_G 121 53 L S σ := fun L S σ => mi_121_4_d (by decide)
    simp (disch := omega) only [↓mi_121_0, ↓mi_121_1, d, ↓mi_121_53, ↓mi_121_54, ↓mi_121_57, ↓mi_121_58, ↓mi_121_59, cond_true, mz_clv, mz_cln, Bool.false_or, Bool.true_or, Bool.or_false, Bool.or_true, if_true, if_false, ite_self, o2_27, er_27, hG]
theorem sp_119n {g u s : Nat} (hu : u < 8) (hg : g ≤ 5) (hs : s < 4) (hG : I 19 0 2 = nI g) (hb : (decide (s = g) && !ms_bit (I 19 0 4) u && ms_awt g (I 20 0 0) (I 20 0 1) u) = false) : ms_G 119 0 [.ref (ms_ad 19 0), .ref (ms_ad 17 (7 * u + s)), .null, .null] [] (ms_Z q false I J) = some (.inl (some (.int (ms_b false))), ms_Z q false I J) := by
  have e0 := svs_0 (u := u) hs
  have e1 := svs_1 (u := u) (s := s) (by omega)
  by_cases h1 : s = g
  · rw [decide_eq_true h1, Bool.true_and] at hb
    have h2 := sp_120 (q := q) (J := J) hu (by omega) hG
    cases hc : ms_bit (I 19 0 4) u with
    | true =>
      simp (disch := omega) only [↓mi_119_0, ↓mi_119_1, ↓mi_119_4, ↓mi_119_5, ↓mi_119_6, ↓mi_119_9, ↓mi_119_10, ↓mi_119_13, ↓mi_119_16, ↓mi_119_17, ↓mi_119_20, ↓mi_119_21, ↓mi_119_24, ↓mi_119_35, ↓mi_119_36, ↓mi_119_36_1, ↓mi_119_36_b, cond_true, mz_clv, mz_cln, Bool.false_or, Bool.true_or, Bool.or_false, Bool.or_true, if_true, if_false, ite_self, e0, e1, hG, na_eq, if_pos, sp_15, hc, if_neg b_t]
      rfl
    | false =>
      rw [hc, Bool.not_false, Bool.true_and] at hb
      rw [hb] at h2
      simp (disch := omega) only [↓mi_119_0, ↓mi_119_1, ↓mi_119_4, ↓mi_119_5, ↓mi_119_6, ↓mi_119_9, ↓mi_119_10, ↓mi_119_13, ↓mi_119_16, ↓mi_119_17, ↓mi_119_20, ↓mi_119_21, ↓mi_119_24, ↓mi_119_27, ↓mi_119_28, ↓mi_119_29, ↓mi_119_32, ↓mi_119_35, ↓mi_119_36, ↓mi_119_36_1, ↓mi_119_36_b, cond_true, mz_clv, mz_cln, Bool.false_or, Bool.true_or, Bool.or_false, Bool.or_true, if_true, if_false, ite_self, e0, e1, hG, na_eq, if_pos, sp_15, hc, if_pos b_f, h2]
      rfl
  · simp (disch := omega) only [↓mi_119_0, ↓mi_119_1, ↓mi_119_4, ↓mi_119_5, ↓mi_119_6, ↓mi_119_9, ↓mi_119_10, ↓mi_119_13, ↓mi_119_35, ↓mi_119_36, ↓mi_119_36_1, ↓mi_119_36_b, cond_true, mz_clv, mz_cln, Bool.false_or, Bool.true_or, Bool.or_false, Bool.or_true, if_true, if_false, ite_self, e0, e1, hG, na_eq, if_neg]
    rfl
theorem sp_119y {g u s : Nat} (hu : u < 8) (hg : g ≤ 5) (hs : s < 4) (hG : I 19 0 2 = nI g) (hb : (decide (s = g) && !ms_bit (I 19 0 4) u && ms_awt g (I 20 0 0) (I 20 0 1) u) = true) : ∃ I', ms_G 119 0 [.ref (ms_ad 19 0), .ref (ms_ad 17 (7 * u + s)), .null, .null] [] (ms_Z q false I J) = some (.inl (some (.int (ms_b true))), ms_Z q true I' J) ∧ ms_hr I I' u s (7 * u + s) := by
  have e0 := svs_0 (u := u) hs
  have e1 := svs_1 (u := u) (s := s) (by omega)
  simp only [Bool.and_eq_true, decide_eq_true_eq, Bool.not_eq_true'] at hb
  obtain ⟨⟨h1, hc⟩, h3⟩ := hb
  have h2 := sp_120 (q := q) (J := J) hu (by omega) hG
  rw [h3] at h2
  have h4 := sp_121 (q := q) (J := J) hu (by omega) hG
  rw [← h1] at h4 hG
  obtain ⟨p, ep⟩ : ∃ p, p = 7 * u + s := ⟨_, rfl⟩
  have lp : p < 56 := by omega
  have key : ∀ L, mo_3 (22 + 2 * s) u = true → ms_nr q.1 (22 + 2 * s) u = L → ms_wl p = L → mo_c q.1 18 p (22 + 2 * s) u 0 0 L = true → 22 + 2 * s ≠ 19 → ∃ I', ms_G 119 0 [.ref (ms_ad 19 0), .ref (ms_ad 17 p), .null, .null] [] (ms_Z q false I J) = some (.inl (some (.int (ms_b true))), ms_Z q true I' J) ∧ ms_hr I I' u s p := by
    intro L k3 kn kw kc kne
    rw [← ep] at e0 e1
    refine ⟨ms_u (ms_u I (22 + 2 * s) u (va_cpy (I 18 p) (I (22 + 2 * s) u) 0 0 L)) 19 0 (upd (I 19 0) 4 (I 19 0 4 ||| nI 1 <<< (nI u &&& 31))), ?_, ?_, ?_, ?_⟩
    · have u19 : ms_u I (22 + 2 * s) u (va_cpy (I 18 p) (I (22 + 2 * s) u) 0 0 L) 19 0 = I 19 0 := ms_u_r _ _ _ _ (by omega)
      simp (disch := omega) only [↓mi_119_0, ↓mi_119_1, ↓mi_119_4, ↓mi_119_5, ↓mi_119_6, ↓mi_119_9, ↓mi_119_10, ↓mi_119_13, ↓mi_119_16, ↓mi_119_17, ↓mi_119_20, ↓mi_119_21, ↓mi_119_24, ↓mi_119_27, ↓mi_119_28, ↓mi_119_29, ↓mi_119_32, ↓mi_119_37, ↓mi_119_38, ↓mi_119_39, ↓mi_119_42, ↓mi_119_43, ↓mi_119_44, ↓mi_119_47, ↓mi_119_48, ↓mi_119_49, ↓mi_119_50, ↓mi_119_51, ↓mi_119_52, ↓mi_119_55, ↓mi_119_56, ↓mi_119_57, ↓mi_119_60, ↓mi_119_61, ↓mi_119_62, ↓mi_119_63, ↓mi_119_64, ↓mi_119_67, ↓mi_119_68, ↓mi_119_68_1, ↓mi_119_68_b, cond_true, mz_clv, mz_cln, Bool.false_or, Bool.true_or, Bool.or_false, Bool.or_true, if_true, if_false, ite_self, e0, e1, hG, na_eq, if_pos, sp_15, hc, if_pos b_f, h2, if_neg b_t, h4, k3, kn, kc, u19]
      rfl
    · intro k hk
      rw [ms_u_r _ _ _ _ (by omega), ms_u_s, pk_cpy_in (by omega) (by omega), show 0 + (k - 0) = k by omega]
    · rw [ms_u_s]
    · intro r u' n1 n2
      rw [ms_u_r _ _ _ _ n2]
      exact if_neg fun z => by rcases n1 with h | h <;> omega
  rw [← ep]
  have c : s = 0 ∨ s = 1 ∨ s = 2 ∨ s = 3 := by omega
  rcases c with h | h | h | h
  · have wl : ms_wl p = 4 := by rw [ep]; exact wl_0 h
    subst h
    exact key 4 (o3_22 hu) rfl wl (mo_c_ok rfl rfl lp hu (show 0 + 4 ≤ ms_wl p by omega) (show 0 + 4 ≤ 4 by decide) (by decide) (by decide)) (by decide)
  · have wl : ms_wl p = 64 := by rw [ep]; exact wl_1 h
    subst h
    exact key 64 (o3_24 hu) rfl wl (mo_c_ok rfl rfl lp hu (show 0 + 64 ≤ ms_wl p by omega) (show 0 + 64 ≤ 64 by decide) (by decide) (by decide)) (by decide)
  · have wl : ms_wl p = 4 := by rw [ep]; exact wl_2 h
    subst h
    exact key 4 (o3_26 hu) rfl wl (mo_c_ok rfl rfl lp hu (show 0 + 4 ≤ ms_wl p by omega) (show 0 + 4 ≤ 4 by decide) (by decide) (by decide)) (by decide)
  · have wl : ms_wl p = 17 := by rw [ep]; exact wl_3 h
    subst h
    exact key 17 (o3_28 hu) rfl wl (mo_c_ok rfl rfl lp hu (show 0 + 17 ≤ ms_wl p by omega) (show 0 + 17 ≤ 17 by decide) (by decide) (by decide)) (by decide)
theorem he_0 {u a : Nat} (hu : u < 8) (ha : a + 70 ≤ 4480) {f : Nat → Int32} (hL : I 56 0 (a + 3) = nI 4) : ∀ d k l5, d + k = 4 → ms_G 51 82 [.ref (ms_ad 40 0), .int (nI a), .int (nI 0), .int (nI u), .int (nI k), l5] [] (ms_Z q true (ms_u I 52 0 (ms_cc2 (4 * u) k (a + 4) (I 56 0) f)) J) = some (.inl (some (.int (ms_b true))), ms_Z q true (ms_u I 52 0 (ms_cc2 (4 * u) 4 (a + 4) (I 56 0) f)) J)
  | 0, k, l5, hk => by
    have : k = 4 := by omega
    subst this
    simp (disch := omega) only [↓mi_51_82, ↓mi_51_84, ↓mi_51_85, ↓mi_51_88, ↓mi_51_89, ↓mi_51_90, ↓mi_51_91, ↓mi_51_92, ↓mi_51_191, ↓mi_51_192, ↓mi_51_192_1, ↓mi_51_192_b, cond_true, mz_clv, mz_cln, Bool.false_or, Bool.true_or, Bool.or_false, Bool.or_true, if_true, if_false, ite_self, ms_u_s, ms_u_r, ms_u_i, ms_u_u, o0_56, hL, na_up, na_le, if_pos]
    rfl
  | d + 1, k, l5, hk => by
    have ih := fun l5 => he_0 hu ha (f := f) hL d (k + 1) l5 (by omega)
    have es := ms_cc2_s (4 * u) k (a + 4) (I 56 0) f
    rw [mi_51_82]
    simp (disch := omega) only [↓mi_51_84, ↓mi_51_85, ↓mi_51_88, ↓mi_51_89, ↓mi_51_90, ↓mi_51_91, ↓mi_51_92, ↓mi_51_95, ↓mi_51_96, ↓mi_51_99, ↓mi_51_100, ↓mi_51_101, ↓mi_51_102, ↓mi_51_104, ↓mi_51_105, ↓mi_51_106, ↓mi_51_108, ↓mi_51_109, ↓mi_51_112, ↓mi_51_113, ↓mi_51_116, ↓mi_51_117, ↓mi_51_118, ↓mi_51_119, ↓mi_51_121, ↓mi_51_122, ↓mi_51_124, ↓mi_51_125, ↓mi_51_185, ↓mi_51_188, cond_true, mz_clv, mz_cln, Bool.false_or, Bool.true_or, Bool.or_false, Bool.or_true, if_true, if_false, ite_self, ms_u_s, ms_u_r, ms_u_i, ms_u_u, o0_56, o0_52, hL, na_le, na_eq, na_up, pk_mul, if_neg, if_pos, es]
    exact ih _
theorem he_1 {u a : Nat} (hu : u < 8) (ha : a + 70 ≤ 4480) {f : Nat → Int32} (hL : I 56 0 (a + 3) = nI 64) : ∀ d k l5, d + k = 64 → ms_G 51 82 [.ref (ms_ad 40 0), .int (nI a), .int (nI 1), .int (nI u), .int (nI k), l5] [] (ms_Z q true (ms_u I 53 0 (ms_cc2 (64 * u) k (a + 4) (I 56 0) f)) J) = some (.inl (some (.int (ms_b true))), ms_Z q true (ms_u I 53 0 (ms_cc2 (64 * u) 64 (a + 4) (I 56 0) f)) J)
  | 0, k, l5, hk => by
    have : k = 64 := by omega
    subst this
    simp (disch := omega) only [↓mi_51_82, ↓mi_51_84, ↓mi_51_85, ↓mi_51_88, ↓mi_51_89, ↓mi_51_90, ↓mi_51_91, ↓mi_51_92, ↓mi_51_191, ↓mi_51_192, ↓mi_51_192_1, ↓mi_51_192_b, cond_true, mz_clv, mz_cln, Bool.false_or, Bool.true_or, Bool.or_false, Bool.or_true, if_true, if_false, ite_self, ms_u_s, ms_u_r, ms_u_i, ms_u_u, o0_56, hL, na_up, na_le, if_pos]
    rfl
  | d + 1, k, l5, hk => by
    have ih := fun l5 => he_1 hu ha (f := f) hL d (k + 1) l5 (by omega)
    have es := ms_cc2_s (64 * u) k (a + 4) (I 56 0) f
    rw [mi_51_82]
    simp (disch := omega) only [↓mi_51_84, ↓mi_51_85, ↓mi_51_88, ↓mi_51_89, ↓mi_51_90, ↓mi_51_91, ↓mi_51_92, ↓mi_51_95, ↓mi_51_96, ↓mi_51_99, ↓mi_51_100, ↓mi_51_101, ↓mi_51_102, ↓mi_51_104, ↓mi_51_105, ↓mi_51_106, ↓mi_51_108, ↓mi_51_109, ↓mi_51_128, ↓mi_51_129, ↓mi_51_130, ↓mi_51_133, ↓mi_51_134, ↓mi_51_137, ↓mi_51_139, ↓mi_51_140, ↓mi_51_141, ↓mi_51_143, ↓mi_51_144, ↓mi_51_146, ↓mi_51_147, ↓mi_51_185, ↓mi_51_188, cond_true, mz_clv, mz_cln, Bool.false_or, Bool.true_or, Bool.or_false, Bool.or_true, if_true, if_false, ite_self, ms_u_s, ms_u_r, ms_u_i, ms_u_u, o0_56, o0_53, hL, na_le, na_eq, na_up, pk_mul, if_neg, if_pos, es]
    exact ih _
theorem he_2 {u a : Nat} (hu : u < 8) (ha : a + 70 ≤ 4480) {f : Nat → Int32} (hL : I 56 0 (a + 3) = nI 4) : ∀ d k l5, d + k = 4 → ms_G 51 82 [.ref (ms_ad 40 0), .int (nI a), .int (nI 2), .int (nI u), .int (nI k), l5] [] (ms_Z q true (ms_u I 54 0 (ms_cc2 (4 * u) k (a + 4) (I 56 0) f)) J) = some (.inl (some (.int (ms_b true))), ms_Z q true (ms_u I 54 0 (ms_cc2 (4 * u) 4 (a + 4) (I 56 0) f)) J)
  | 0, k, l5, hk => by
    have : k = 4 := by omega
    subst this
    simp (disch := omega) only [↓mi_51_82, ↓mi_51_84, ↓mi_51_85, ↓mi_51_88, ↓mi_51_89, ↓mi_51_90, ↓mi_51_91, ↓mi_51_92, ↓mi_51_191, ↓mi_51_192, ↓mi_51_192_1, ↓mi_51_192_b, cond_true, mz_clv, mz_cln, Bool.false_or, Bool.true_or, Bool.or_false, Bool.or_true, if_true, if_false, ite_self, ms_u_s, ms_u_r, ms_u_i, ms_u_u, o0_56, hL, na_up, na_le, if_pos]
    rfl
  | d + 1, k, l5, hk => by
    have ih := fun l5 => he_2 hu ha (f := f) hL d (k + 1) l5 (by omega)
    have es := ms_cc2_s (4 * u) k (a + 4) (I 56 0) f
    rw [mi_51_82]
    simp (disch := omega) only [↓mi_51_84, ↓mi_51_85, ↓mi_51_88, ↓mi_51_89, ↓mi_51_90, ↓mi_51_91, ↓mi_51_92, ↓mi_51_95, ↓mi_51_96, ↓mi_51_99, ↓mi_51_100, ↓mi_51_101, ↓mi_51_102, ↓mi_51_104, ↓mi_51_105, ↓mi_51_106, ↓mi_51_108, ↓mi_51_109, ↓mi_51_128, ↓mi_51_129, ↓mi_51_130, ↓mi_51_150, ↓mi_51_151, ↓mi_51_152, ↓mi_51_155, ↓mi_51_156, ↓mi_51_159, ↓mi_51_160, ↓mi_51_161, ↓mi_51_162, ↓mi_51_164, ↓mi_51_165, ↓mi_51_167, ↓mi_51_168, ↓mi_51_185, ↓mi_51_188, cond_true, mz_clv, mz_cln, Bool.false_or, Bool.true_or, Bool.or_false, Bool.or_true, if_true, if_false, ite_self, ms_u_s, ms_u_r, ms_u_i, ms_u_u, o0_56, o0_54, hL, na_le, na_eq, na_up, pk_mul, if_neg, if_pos, es]
    exact ih _
theorem he_3 {u a : Nat} (hu : u < 8) (ha : a + 70 ≤ 4480) {f : Nat → Int32} (hL : I 56 0 (a + 3) = nI 17) : ∀ d k l5, d + k = 17 → ms_G 51 82 [.ref (ms_ad 40 0), .int (nI a), .int (nI 3), .int (nI u), .int (nI k), l5] [] (ms_Z q true (ms_u I 55 0 (ms_cc2 (17 * u) k (a + 4) (I 56 0) f)) J) = some (.inl (some (.int (ms_b true))), ms_Z q true (ms_u I 55 0 (ms_cc2 (17 * u) 17 (a + 4) (I 56 0) f)) J)
  | 0, k, l5, hk => by
    have : k = 17 := by omega
    subst this
    simp (disch := omega) only [↓mi_51_82, ↓mi_51_84, ↓mi_51_85, ↓mi_51_88, ↓mi_51_89, ↓mi_51_90, ↓mi_51_91, ↓mi_51_92, ↓mi_51_191, ↓mi_51_192, ↓mi_51_192_1, ↓mi_51_192_b, cond_true, mz_clv, mz_cln, Bool.false_or, Bool.true_or, Bool.or_false, Bool.or_true, if_true, if_false, ite_self, ms_u_s, ms_u_r, ms_u_i, ms_u_u, o0_56, hL, na_up, na_le, if_pos]
    rfl
  | d + 1, k, l5, hk => by
    have ih := fun l5 => he_3 hu ha (f := f) hL d (k + 1) l5 (by omega)
    have es := ms_cc2_s (17 * u) k (a + 4) (I 56 0) f
    rw [mi_51_82]
    simp (disch := omega) only [↓mi_51_84, ↓mi_51_85, ↓mi_51_88, ↓mi_51_89, ↓mi_51_90, ↓mi_51_91, ↓mi_51_92, ↓mi_51_95, ↓mi_51_96, ↓mi_51_99, ↓mi_51_100, ↓mi_51_101, ↓mi_51_102, ↓mi_51_104, ↓mi_51_105, ↓mi_51_106, ↓mi_51_108, ↓mi_51_109, ↓mi_51_128, ↓mi_51_129, ↓mi_51_130, ↓mi_51_150, ↓mi_51_151, ↓mi_51_152, ↓mi_51_171, ↓mi_51_172, ↓mi_51_175, ↓mi_51_177, ↓mi_51_178, ↓mi_51_179, ↓mi_51_181, ↓mi_51_182, ↓mi_51_184, ↓mi_51_185, ↓mi_51_188, cond_true, mz_clv, mz_cln, Bool.false_or, Bool.true_or, Bool.or_false, Bool.or_true, if_true, if_false, ite_self, ms_u_s, ms_u_r, ms_u_i, ms_u_u, o0_56, o0_55, hL, na_le, na_eq, na_up, pk_mul, if_neg, if_pos, es]
    exact ih _
theorem sp_51n {g u s a : Nat} (hu : u < 8) (hg : g ≤ 5) (hs : s < 4) (ha : a + 70 ≤ 4480) (hG : I 40 0 3 = nI g) (r0 : I 56 0 a = nI s) (r1 : I 56 0 (a + 1) = nI u) (hb : (decide (s = g) && !ms_bit (I 51 0 s) u && ms_awt s (I 50 0 0) (I 50 0 1) u) = false) : ms_G 51 0 [.ref (ms_ad 40 0), .int (nI a), .null, .null, .null, .null] [] (ms_Z q false I J) = some (.inl (some (.int (ms_b false))), ms_Z q false I J) := by
  by_cases h1 : s = g
  · rw [decide_eq_true h1, Bool.true_and] at hb
    cases hc : ms_bit (I 51 0 s) u with
    | true =>
      simp (disch := omega) only [↓mi_51_0, ↓mi_51_1, ↓mi_51_4, ↓mi_51_5, ↓mi_51_6, ↓mi_51_7, ↓mi_51_8, ↓mi_51_11, ↓mi_51_12, ↓mi_51_13, ↓mi_51_14, ↓mi_51_15, ↓mi_51_16, ↓mi_51_17, ↓mi_51_18, ↓mi_51_21, ↓mi_51_24, ↓mi_51_25, ↓mi_51_28, ↓mi_51_29, ↓mi_51_30, ↓mi_51_31, ↓mi_51_34, ↓mi_51_65, ↓mi_51_66, ↓mi_51_66_1, ↓mi_51_66_b, cond_true, mz_clv, mz_cln, Bool.false_or, Bool.true_or, Bool.or_false, Bool.or_true, if_true, if_false, ite_self, o0_51, o0_56, hG, r0, r1, na_up, na_eq, if_pos, sp_42, hc, if_neg b_t]
      rfl
    | false =>
      rw [hc, Bool.not_false, Bool.true_and] at hb
      have c : s = 0 ∨ s = 1 ∨ s = 2 ∨ s = 3 := by omega
      rcases c with h | h | h | h
      · subst h
        cases hb
      · subst h
        have hb2 : ms_bit (I 50 0 0) u = false := hb
        simp (disch := omega) only [↓mi_51_0, ↓mi_51_1, ↓mi_51_4, ↓mi_51_5, ↓mi_51_6, ↓mi_51_7, ↓mi_51_8, ↓mi_51_11, ↓mi_51_12, ↓mi_51_13, ↓mi_51_14, ↓mi_51_15, ↓mi_51_16, ↓mi_51_17, ↓mi_51_18, ↓mi_51_21, ↓mi_51_24, ↓mi_51_25, ↓mi_51_28, ↓mi_51_29, ↓mi_51_30, ↓mi_51_31, ↓mi_51_34, ↓mi_51_37, ↓mi_51_38, ↓mi_51_41, ↓mi_51_42, ↓mi_51_45, ↓mi_51_46, ↓mi_51_47, ↓mi_51_50, ↓mi_51_51, ↓mi_51_54, ↓mi_51_55, ↓mi_51_56, ↓mi_51_57, ↓mi_51_58, ↓mi_51_59, ↓mi_51_62, ↓mi_51_65, ↓mi_51_66, ↓mi_51_66_1, ↓mi_51_66_b, cond_true, mz_clv, mz_cln, Bool.false_or, Bool.true_or, Bool.or_false, Bool.or_true, if_true, if_false, ite_self, o0_50, o0_51, o0_56, hG, r0, r1, na_up, na_eq, na_le, pk_sub, if_pos, if_neg, sp_42, hc, if_pos b_f]
        have hb3 : ms_bit (I 50 0 (1 - 1)) u = false := hb2
        simp (disch := omega) only [hb3, if_pos b_f, ↓mi_51_65, ↓mi_51_66, ↓mi_51_66_1, ↓mi_51_66_b]
        rfl
      · subst h
        have hb2 : ms_bit (I 50 0 (2 - 1)) u = false := hb
        simp (disch := omega) only [↓mi_51_0, ↓mi_51_1, ↓mi_51_4, ↓mi_51_5, ↓mi_51_6, ↓mi_51_7, ↓mi_51_8, ↓mi_51_11, ↓mi_51_12, ↓mi_51_13, ↓mi_51_14, ↓mi_51_15, ↓mi_51_16, ↓mi_51_17, ↓mi_51_18, ↓mi_51_21, ↓mi_51_24, ↓mi_51_25, ↓mi_51_28, ↓mi_51_29, ↓mi_51_30, ↓mi_51_31, ↓mi_51_34, ↓mi_51_37, ↓mi_51_38, ↓mi_51_41, ↓mi_51_42, ↓mi_51_45, ↓mi_51_46, ↓mi_51_47, ↓mi_51_50, ↓mi_51_51, ↓mi_51_54, ↓mi_51_55, ↓mi_51_56, ↓mi_51_57, ↓mi_51_58, ↓mi_51_59, ↓mi_51_62, ↓mi_51_65, ↓mi_51_66, ↓mi_51_66_1, ↓mi_51_66_b, cond_true, mz_clv, mz_cln, Bool.false_or, Bool.true_or, Bool.or_false, Bool.or_true, if_true, if_false, ite_self, o0_50, o0_51, o0_56, hG, r0, r1, na_up, na_eq, na_le, pk_sub, if_pos, if_neg, sp_42, hc, hb2, if_pos b_f]
        rfl
      · subst h
        have hb2 : ms_bit (I 50 0 1) u = false := hb
        simp (disch := omega) only [↓mi_51_0, ↓mi_51_1, ↓mi_51_4, ↓mi_51_5, ↓mi_51_6, ↓mi_51_7, ↓mi_51_8, ↓mi_51_11, ↓mi_51_12, ↓mi_51_13, ↓mi_51_14, ↓mi_51_15, ↓mi_51_16, ↓mi_51_17, ↓mi_51_18, ↓mi_51_21, ↓mi_51_24, ↓mi_51_25, ↓mi_51_28, ↓mi_51_29, ↓mi_51_30, ↓mi_51_31, ↓mi_51_34, ↓mi_51_37, ↓mi_51_38, ↓mi_51_41, ↓mi_51_42, ↓mi_51_45, ↓mi_51_46, ↓mi_51_47, ↓mi_51_50, ↓mi_51_51, ↓mi_51_54, ↓mi_51_55, ↓mi_51_56, ↓mi_51_57, ↓mi_51_58, ↓mi_51_59, ↓mi_51_62, ↓mi_51_65, ↓mi_51_66, ↓mi_51_66_1, ↓mi_51_66_b, cond_true, mz_clv, mz_cln, Bool.false_or, Bool.true_or, Bool.or_false, Bool.or_true, if_true, if_false, ite_self, o0_50, o0_51, o0_56, hG, r0, r1, na_up, na_eq, na_le, pk_sub, if_pos, if_neg, sp_42, hc, hb2, if_pos b_f]
        rfl
  · simp (disch := omega) only [↓mi_51_0, ↓mi_51_1, ↓mi_51_4, ↓mi_51_5, ↓mi_51_6, ↓mi_51_7, ↓mi_51_8, ↓mi_51_11, ↓mi_51_12, ↓mi_51_13, ↓mi_51_14, ↓mi_51_15, ↓mi_51_16, ↓mi_51_17, ↓mi_51_18, ↓mi_51_21, ↓mi_51_65, ↓mi_51_66, ↓mi_51_66_1, ↓mi_51_66_b, cond_true, mz_clv, mz_cln, Bool.false_or, Bool.true_or, Bool.or_false, Bool.or_true, if_true, if_false, ite_self, o0_56, hG, r0, r1, na_up, na_eq, if_neg]
    rfl
theorem sp_51y {g u s a : Nat} (hu : u < 8) (hg : g ≤ 5) (hs : s < 4) (ha : a + 70 ≤ 4480) (hG : I 40 0 3 = nI g) (r0 : I 56 0 a = nI s) (r1 : I 56 0 (a + 1) = nI u) (r3 : I 56 0 (a + 3) = nI (ms_hl s)) (hb : (decide (s = g) && !ms_bit (I 51 0 s) u && ms_awt s (I 50 0 0) (I 50 0 1) u) = true) : ∃ I', ms_G 51 0 [.ref (ms_ad 40 0), .int (nI a), .null, .null, .null, .null] [] (ms_Z q false I J) = some (.inl (some (.int (ms_b true))), ms_Z q true I' J) ∧ ms_hm I I' u s a := by
  simp only [Bool.and_eq_true, decide_eq_true_eq, Bool.not_eq_true'] at hb
  obtain ⟨⟨h1, hc⟩, h3⟩ := hb
  obtain ⟨I1, e1⟩ : ∃ I1, I1 = ms_u I 51 0 (upd (I 51 0) s (I 51 0 s ||| nI 1 <<< (nI u &&& 31))) := ⟨_, rfl⟩
  have g1 : ∀ r u', r ≠ 51 → I1 r u' = I r u' := fun r u' z => by rw [e1, ms_u_r _ _ _ _ z]
  have e51 : I1 51 0 = upd (I 51 0) s (I 51 0 s ||| nI 1 <<< (nI u &&& 31)) := by rw [e1, ms_u_s]
  have st : ms_G 51 0 [.ref (ms_ad 40 0), .int (nI a), .null, .null, .null, .null] [] (ms_Z q false I J) = ms_G 51 82 [.ref (ms_ad 40 0), .int (nI a), .int (nI s), .int (nI u), .int (nI 0), .null] [] (ms_Z q true I1 J) := by
    have c : s = 0 ∨ s = 1 ∨ s = 2 ∨ s = 3 := by omega
    rcases c with h | h | h | h
    · subst h
      simp (disch := omega) only [↓mi_51_0, ↓mi_51_1, ↓mi_51_4, ↓mi_51_5, ↓mi_51_6, ↓mi_51_7, ↓mi_51_8, ↓mi_51_11, ↓mi_51_12, ↓mi_51_13, ↓mi_51_14, ↓mi_51_15, ↓mi_51_16, ↓mi_51_17, ↓mi_51_18, ↓mi_51_21, ↓mi_51_24, ↓mi_51_25, ↓mi_51_28, ↓mi_51_29, ↓mi_51_30, ↓mi_51_31, ↓mi_51_34, ↓mi_51_37, ↓mi_51_38, ↓mi_51_67, ↓mi_51_68, ↓mi_51_71, ↓mi_51_72, ↓mi_51_73, ↓mi_51_74, ↓mi_51_75, ↓mi_51_76, ↓mi_51_77, ↓mi_51_78, ↓mi_51_79, ↓mi_51_80, cond_true, mz_clv, mz_cln, Bool.false_or, Bool.true_or, Bool.or_false, Bool.or_true, if_true, if_false, ite_self, o0_51, o0_56, hG, r0, r1, na_up, na_eq, na_le, if_pos, sp_42, hc, if_pos b_f, ← e1]
    · subst h
      have hb2 : ms_bit (I 50 0 (1 - 1)) u = true := h3
      simp (disch := omega) only [↓mi_51_0, ↓mi_51_1, ↓mi_51_4, ↓mi_51_5, ↓mi_51_6, ↓mi_51_7, ↓mi_51_8, ↓mi_51_11, ↓mi_51_12, ↓mi_51_13, ↓mi_51_14, ↓mi_51_15, ↓mi_51_16, ↓mi_51_17, ↓mi_51_18, ↓mi_51_21, ↓mi_51_24, ↓mi_51_25, ↓mi_51_28, ↓mi_51_29, ↓mi_51_30, ↓mi_51_31, ↓mi_51_34, ↓mi_51_37, ↓mi_51_38, ↓mi_51_41, ↓mi_51_42, ↓mi_51_45, ↓mi_51_46, ↓mi_51_47, ↓mi_51_50, ↓mi_51_51, ↓mi_51_54, ↓mi_51_55, ↓mi_51_56, ↓mi_51_57, ↓mi_51_58, ↓mi_51_59, ↓mi_51_62, ↓mi_51_67, ↓mi_51_68, ↓mi_51_71, ↓mi_51_72, ↓mi_51_73, ↓mi_51_74, ↓mi_51_75, ↓mi_51_76, ↓mi_51_77, ↓mi_51_78, ↓mi_51_79, ↓mi_51_80, cond_true, mz_clv, mz_cln, Bool.false_or, Bool.true_or, Bool.or_false, Bool.or_true, if_true, if_false, ite_self, o0_50, o0_51, o0_56, hG, r0, r1, na_up, na_eq, na_le, pk_sub, if_pos, if_neg, sp_42, hc, hb2, if_pos b_f, if_neg b_t, ← e1]
    · subst h
      have hb2 : ms_bit (I 50 0 (2 - 1)) u = true := h3
      simp (disch := omega) only [↓mi_51_0, ↓mi_51_1, ↓mi_51_4, ↓mi_51_5, ↓mi_51_6, ↓mi_51_7, ↓mi_51_8, ↓mi_51_11, ↓mi_51_12, ↓mi_51_13, ↓mi_51_14, ↓mi_51_15, ↓mi_51_16, ↓mi_51_17, ↓mi_51_18, ↓mi_51_21, ↓mi_51_24, ↓mi_51_25, ↓mi_51_28, ↓mi_51_29, ↓mi_51_30, ↓mi_51_31, ↓mi_51_34, ↓mi_51_37, ↓mi_51_38, ↓mi_51_41, ↓mi_51_42, ↓mi_51_45, ↓mi_51_46, ↓mi_51_47, ↓mi_51_50, ↓mi_51_51, ↓mi_51_54, ↓mi_51_55, ↓mi_51_56, ↓mi_51_57, ↓mi_51_58, ↓mi_51_59, ↓mi_51_62, ↓mi_51_67, ↓mi_51_68, ↓mi_51_71, ↓mi_51_72, ↓mi_51_73, ↓mi_51_74, ↓mi_51_75, ↓mi_51_76, ↓mi_51_77, ↓mi_51_78, ↓mi_51_79, ↓mi_51_80, cond_true, mz_clv, mz_cln, Bool.false_or, Bool.true_or, Bool.or_false, Bool.or_true, if_true, if_false, ite_self, o0_50, o0_51, o0_56, hG, r0, r1, na_up, na_eq, na_le, pk_sub, if_pos, if_neg, sp_42, hc, hb2, if_pos b_f, if_neg b_t, ← e1]
    · subst h
      have hb2 : ms_bit (I 50 0 1) u = true := h3
      simp (disch := omega) only [↓mi_51_0, ↓mi_51_1, ↓mi_51_4, ↓mi_51_5, ↓mi_51_6, ↓mi_51_7, ↓mi_51_8, ↓mi_51_11, ↓mi_51_12, ↓mi_51_13, ↓mi_51_14, ↓mi_51_15, ↓mi_51_16, ↓mi_51_17, ↓mi_51_18, ↓mi_51_21, ↓mi_51_24, ↓mi_51_25, ↓mi_51_28, ↓mi_51_29, ↓mi_51_30, ↓mi_51_31, ↓mi_51_34, ↓mi_51_37, ↓mi_51_38, ↓mi_51_41, ↓mi_51_42, ↓mi_51_45, ↓mi_51_46, ↓mi_51_47, ↓mi_51_50, ↓mi_51_51, ↓mi_51_54, ↓mi_51_55, ↓mi_51_56, ↓mi_51_57, ↓mi_51_58, ↓mi_51_59, ↓mi_51_62, ↓mi_51_67, ↓mi_51_68, ↓mi_51_71, ↓mi_51_72, ↓mi_51_73, ↓mi_51_74, ↓mi_51_75, ↓mi_51_76, ↓mi_51_77, ↓mi_51_78, ↓mi_51_79, ↓mi_51_80, cond_true, mz_clv, mz_cln, Bool.false_or, Bool.true_or, Bool.or_false, Bool.or_true, if_true, if_false, ite_self, o0_50, o0_51, o0_56, hG, r0, r1, na_up, na_eq, na_le, pk_sub, if_pos, if_neg, sp_42, hc, hb2, if_pos b_f, if_neg b_t, ← e1]
  have fin : ∀ I', I' = ms_u I1 (52 + s) 0 (ms_cc2 (ms_hl s * u) (ms_hl s) (a + 4) (I1 56 0) (I1 (52 + s) 0)) → ms_hm I I' u s a := by
    intro I' e
    refine ⟨?_, ?_, ?_, ?_⟩
    · intro k hk
      rw [e, ms_u_s, cc2_in hk, g1 56 0 (by decide)]
    · intro i hi
      rw [e, ms_u_s, cc2_out hi, g1 _ _ (by omega)]
    · rw [e, ms_u_r _ _ _ _ (by omega), e51]
    · intro r u' n1 n2
      rw [e, ms_u_r _ _ _ _ n2, g1 r u' n1]
  have c : s = 0 ∨ s = 1 ∨ s = 2 ∨ s = 3 := by omega
  rcases c with h | h | h | h
  · subst h
    have L := he_0 (q := q) (I := I1) (J := J) hu ha (f := I1 52 0) (by rw [g1 56 0 (by decide)]; exact r3) 4 0 .null rfl
    rw [ms_cc2_0, ms_u_id] at L
    exact ⟨_, st.trans L, fin _ rfl⟩
  · subst h
    have L := he_1 (q := q) (I := I1) (J := J) hu ha (f := I1 53 0) (by rw [g1 56 0 (by decide)]; exact r3) 64 0 .null rfl
    rw [ms_cc2_0, ms_u_id] at L
    exact ⟨_, st.trans L, fin _ rfl⟩
  · subst h
    have L := he_2 (q := q) (I := I1) (J := J) hu ha (f := I1 54 0) (by rw [g1 56 0 (by decide)]; exact r3) 4 0 .null rfl
    rw [ms_cc2_0, ms_u_id] at L
    exact ⟨_, st.trans L, fin _ rfl⟩
  · subst h
    have L := he_3 (q := q) (I := I1) (J := J) hu ha (f := I1 55 0) (by rw [g1 56 0 (by decide)]; exact r3) 17 0 .null rfl
    rw [ms_cc2_0, ms_u_id] at L
    exact ⟨_, st.trans L, fin _ rfl⟩
theorem sp_52 {m : Nat} (x : Int32) (hm : m ≤ 56) (hS : I 40 0 20 = nI m) : ms_G 52 0 [.ref (ms_ad 40 0), .int x] [] (ms_Z q false I J) = some (.inl (some (.int (ms_b (ms_in x m)))), ms_Z q true (ms_u I 40 0 (upd (I 40 0) 0 (if ms_in x m = true then nI 0 else nI 1))) J) := by
  have h := sp_19s (σ := ms_Z q false I J) x (m := m) (by omega)
  cases hb : ms_in x m with
  | true =>
    rw [hb] at h
    rw [if_pos rfl]
    simp (disch := omega) only [↓mi_52_0, ↓mi_52_1, ↓mi_52_2, ↓mi_52_3, ↓mi_52_4, ↓mi_52_7, ↓mi_52_8, ↓mi_52_9, ↓mi_52_12, ↓mi_52_15, ↓mi_52_16, ↓mi_52_19, ↓mi_52_20, ↓mi_52_23, ↓mi_52_24, ↓mi_52_27, ↓mi_52_30, ↓mi_52_31, ↓mi_52_34, ↓mi_52_35, ↓mi_52_35_1, ↓mi_52_35_b, cond_true, mz_clv, mz_cln, Bool.false_or, Bool.true_or, Bool.or_false, Bool.or_true, if_true, if_false, ite_self, ms_u_s, ms_u_r, ms_u_i, ms_u_u, pk_us, hS, h, if_neg b_t, na_eq, if_pos]
    rfl
  | false =>
    rw [hb] at h
    rw [if_neg Bool.false_ne_true]
    simp (disch := omega) only [↓mi_52_0, ↓mi_52_1, ↓mi_52_2, ↓mi_52_3, ↓mi_52_4, ↓mi_52_7, ↓mi_52_8, ↓mi_52_9, ↓mi_52_12, ↓mi_52_15, ↓mi_52_16, ↓mi_52_19, ↓mi_52_20, ↓mi_52_23, ↓mi_52_24, ↓mi_52_27, ↓mi_52_30, ↓mi_52_31, ↓mi_52_34, ↓mi_52_35, ↓mi_52_35_1, ↓mi_52_35_b, cond_true, mz_clv, mz_cln, Bool.false_or, Bool.true_or, Bool.or_false, Bool.or_true, if_true, if_false, ite_self, ms_u_s, ms_u_r, ms_u_i, ms_u_u, pk_us, hS, h, if_pos b_f, na_eq, if_neg]
    rfl
end Hear
