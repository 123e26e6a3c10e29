/-! POLY1305, THE CLASS'S: five limbs of 26 bits. -/
def ms_mL (h : Nat → Nat) : Nat → Int64 := fun i => lN (h i)
def ms_uN (h : Nat → Nat) (k x : Nat) : Nat → Nat := fun i => if i = k then x else h i
theorem mL_upd (h : Nat → Nat) (k x : Nat) : vp_updL (ms_mL h) k (lN x) = ms_mL (ms_uN h k x) := by
  funext i
  unfold vp_updL ms_mL ms_uN
  by_cases hk : i = k
  · simp [hk]
  · simp [hk]
theorem mL_at (h : Nat → Nat) (i : Nat) : ms_mL h i = lN (h i) := rfl
theorem mL_of (f : Nat → Int64) : ∃ h, f = ms_mL h := ⟨fun i => (f i).toBitVec.toNat, by
  funext i
  refine wb_inj ?_
  show (f i).toBitVec = (lN (f i).toBitVec.toNat).toBitVec
  rw [wb_tb]
  simp⟩
theorem uN_s (h : Nat → Nat) (k x : Nat) : ms_uN h k x k = x := if_pos rfl
theorem uN_n (h : Nat → Nat) (k x : Nat) {i : Nat} (hi : i ≠ k) : ms_uN h k x i = h i := if_neg hi
theorem uN_u (h : Nat → Nat) (k x y : Nat) : ms_uN (ms_uN h k x) k y = ms_uN h k y := by
  funext i
  unfold ms_uN
  by_cases hk : i = k
  · rw [if_pos hk, if_pos hk]
  · rw [if_neg hk, if_neg hk, if_neg hk]
-- carries
def ms_ov (h : Nat → Nat) : Nat → Nat
  | 0 => 0
  | k + 1 => (h k + ms_ov h k) / 67108864
def ms_cu (k : Nat) (h : Nat → Nat) : Nat → Nat := fun i => if i < k then (h i + ms_ov h i) % 67108864 else h i
theorem ms_cu_s (k : Nat) (h : Nat → Nat) : ms_uN (ms_cu k h) k ((ms_cu k h k + ms_ov h k) % 67108864) = ms_cu (k + 1) h := by
  funext i
  unfold ms_uN ms_cu
  by_cases hk : i = k
  · subst hk
    simp
  · by_cases h2 : i < k
    · simp [hk, h2, Nat.lt_succ_of_lt h2]
    · simp [hk, h2, show ¬ i < k + 1 by omega]
theorem ms_cu_k (k : Nat) (h : Nat → Nat) : ms_cu k h k = h k := if_neg (Nat.lt_irrefl k)
theorem ms_cu_0 (h : Nat → Nat) : ms_cu 0 h = h := by
  funext i
  exact if_neg (Nat.not_lt_zero i)
theorem ms_ov_lt {h : Nat → Nat} (hb : ∀ i, i < 5 → h i < 9223372036854775808) : ∀ k, k ≤ 5 → ms_ov h k < 274877906944
  | 0, _ => by show 0 < _; decide
  | k + 1, hk => by
    have h1 := ms_ov_lt hb k (by omega)
    have h2 := hb k (by omega)
    show (h k + ms_ov h k) / 67108864 < _
    omega
section Poly
variable {q : Nat × Nat} {w : Bool} {I : ms_i} {J : ms_j} {σ : ms_M}
theorem cu_l {h : Nat → Nat} (hb : ∀ i, i < 5 → h i < 9223372036854775808) : ∀ m k w, m + k = 5 → ms_G 111 4 [.ref (ms_ad 8 0), .long (lN (ms_ov h k)), .null, .int (nI k)] [] (ms_Z q w I (ms_u J 10 0 (ms_mL (ms_cu k h)))) = some (.inl (some (.long (lN (ms_ov h 5)))), ms_Z q (w || decide (0 < m)) I (ms_u J 10 0 (ms_mL (ms_cu 5 h))))
  | 0, k, w, hk => by
    have : k = 5 := by omega
    subst this
    simp (disch := omega) only [↓mi_111_4, ↓mi_111_5, ↓mi_111_6, ↓mi_111_47, ↓mi_111_48, na_le, if_pos, Nat.lt_irrefl, decide_false, Bool.or_false]
  | m + 1, k, w, hk => by
    have h1 := ms_ov_lt hb k (by omega)
    have h2 := hb k (by omega)
    have e26 : (2 : Nat) ^ 26 = 67108864 := rfl
    rw [mi_111_4]
    simp (disch := omega) only [↓mi_111_5, ↓mi_111_6, ↓mi_111_9, ↓mi_111_10, ↓mi_111_13, ↓mi_111_14, ↓mi_111_15, ↓mi_111_16, ↓mi_111_17, ↓mi_111_18, ↓mi_111_19, ↓mi_111_20, ↓mi_111_23, ↓mi_111_24, ↓mi_111_25, ↓mi_111_27, ↓mi_111_28, ↓mi_111_29, ↓mi_111_30, ↓mi_111_33, ↓mi_111_34, ↓mi_111_35, ↓mi_111_36, ↓mi_111_39, ↓mi_111_40, ↓mi_111_41, ↓mi_111_44, cond_true, mz_clv, mz_cln, Bool.false_or, Bool.true_or, Bool.or_false, Bool.or_true, if_true, if_false, ite_self, ms_u_s, ms_u_r, ms_u_i, ms_u_u, o1_10, na_le, na_up, if_neg, mL_at, mL_upd, lN_add, uN_s, uN_u, ms_cu_k, wb_shr, la_m26, e26]
    have e1 : ms_uN (ms_cu k h) k ((h k + ms_ov h k) % 67108864) = ms_cu (k + 1) h := by
      rw [← ms_cu_s, ms_cu_k]
    rw [e1]
    exact (cu_l hb m (k + 1) true (by omega)).trans (by simp)
theorem sp_111 {h : Nat → Nat} (hJ : J 10 0 = ms_mL h) (hb : ∀ i, i < 5 → h i < 9223372036854775808) : ms_G 111 0 [.ref (ms_ad 8 0), .null, .null, .null] [] (ms_Z q false I J) = some (.inl (some (.long (lN (ms_ov h 5)))), ms_Z q true I (ms_u J 10 0 (ms_mL (ms_cu 5 h)))) := by
  have h1 := cu_l (q := q) (I := I) (J := J) hb 5 0 false rfl
  have e := ms_u_id J 10 0
  rw [hJ] at e
  rw [ms_cu_0, e] at h1
  simp only [↓mi_111_0, ↓mi_111_1, ↓mi_111_2, ↓mi_111_3]
  exact h1
def ms_ca (h : Nat → Nat) : Nat → Nat := ms_uN (ms_uN (ms_cu 5 h) 1 (ms_cu 5 h 1 + (ms_cu 5 h 0 + 5 * ms_ov h 5) / 67108864)) 0 ((ms_cu 5 h 0 + 5 * ms_ov h 5) % 67108864)
theorem sp_110 {h : Nat → Nat} (hJ : J 10 0 = ms_mL h) (hb : ∀ i, i < 5 → h i < 9223372036854775808) : ms_G 110 0 [.ref (ms_ad 8 0), .null, .null] [] (ms_Z q false I J) = some (.inl none, ms_Z q true I (ms_u J 10 0 (ms_mL (ms_ca h)))) := by
  have h1 := ms_ov_lt hb 5 (by decide)
  have h2 : ms_cu 5 h 0 < 67108864 := Nat.mod_lt _ (by decide)
  have e26 : (2 : Nat) ^ 26 = 67108864 := rfl
  simp (disch := omega) only [↓mi_110_0, ↓mi_110_1, ↓mi_110_4, ↓mi_110_5, ↓mi_110_6, ↓mi_110_9, ↓mi_110_10, ↓mi_110_11, ↓mi_110_12, ↓mi_110_15, ↓mi_110_16, ↓mi_110_17, ↓mi_110_18, ↓mi_110_19, ↓mi_110_20, ↓mi_110_23, ↓mi_110_24, ↓mi_110_25, ↓mi_110_26, ↓mi_110_27, ↓mi_110_30, ↓mi_110_31, ↓mi_110_32, ↓mi_110_34, ↓mi_110_35, ↓mi_110_36, ↓mi_110_37, ↓mi_110_38, ↓mi_110_41, ↓mi_110_42, ↓mi_110_43, ↓mi_110_44, ↓mi_110_47, ↓mi_110_48, ↓mi_110_49, cond_true, mz_clv, mz_cln, Bool.false_or, Bool.true_or, Bool.or_false, Bool.or_true, if_true, if_false, ite_self, ms_u_s, ms_u_r, ms_u_i, ms_u_u, o1_10, sp_111 hJ hb, mL_at, mL_upd, lN_add, lN_mul, uN_s, uN_u, uN_n, wb_shr, la_m26, e26]
  have e : ms_uN (ms_uN (ms_uN (ms_cu 5 h) 0 (ms_cu 5 h 0 + 5 * ms_ov h 5)) 1 (ms_cu 5 h 1 + (ms_cu 5 h 0 + 5 * ms_ov h 5) / 67108864)) 0 ((ms_cu 5 h 0 + 5 * ms_ov h 5) % 67108864) = ms_ca h := by
    funext i
    unfold ms_ca ms_uN
    by_cases h0 : i = 0
    · simp [h0]
    · by_cases h1 : i = 1
      · simp [h1]
      · simp [h0, h1]
  rw [e]
-- products
def ms_pt (s f : Nat → Nat) (i j : Nat) : Nat := if j ≤ i then s j * f (i - j) else 5 * s j * f (5 + i - j)
def ms_ps (s f : Nat → Nat) (i : Nat) : Nat → Nat
  | 0 => 0
  | k + 1 => ms_ps s f i k + ms_pt s f i k
theorem mu_i {s f : Nat → Nat} (hs : J 10 0 = ms_mL s) (hf : J 9 0 = ms_mL f) {i : Nat} (hi : i < 5) : ∀ m k, m + k = 5 → ms_G 109 12 [.ref (ms_ad 8 0), .int (nI i), .long (lN (ms_ps s f i k)), .null, .int (nI k)] [] (ms_Z q w I J) = ms_G 109 76 [.ref (ms_ad 8 0), .int (nI i), .long (lN (ms_ps s f i 5)), .null, .int (nI 5)] [] (ms_Z q w I J)
  | 0, k, hk => by
    have : k = 5 := by omega
    subst this
    simp (disch := omega) only [↓mi_109_12, ↓mi_109_14, ↓mi_109_15, na_le, if_pos]
  | m + 1, k, hk => by
    rw [mi_109_12]
    by_cases hki : i < k
    · simp (disch := omega) only [↓mi_109_14, ↓mi_109_15, ↓mi_109_18, ↓mi_109_19, ↓mi_109_21, ↓mi_109_22, ↓mi_109_25, ↓mi_109_26, ↓mi_109_29, ↓mi_109_31, ↓mi_109_32, ↓mi_109_33, ↓mi_109_36, ↓mi_109_37, ↓mi_109_39, ↓mi_109_40, ↓mi_109_41, ↓mi_109_42, ↓mi_109_45, ↓mi_109_48, ↓mi_109_49, ↓mi_109_52, ↓mi_109_54, ↓mi_109_55, ↓mi_109_56, ↓mi_109_57, ↓mi_109_60, ↓mi_109_61, ↓mi_109_62, ↓mi_109_63, ↓mi_109_65, ↓mi_109_66, ↓mi_109_67, ↓mi_109_68, ↓mi_109_69, ↓mi_109_70, ↓mi_109_73, cond_true, mz_clv, mz_cln, Bool.false_or, Bool.true_or, Bool.or_false, Bool.or_true, if_true, if_false, ite_self, o1_10, o1_9, na_le, na_lt, na_up, pk_sub, if_neg, if_pos, hs, hf, mL_at, lN_add, lN_mul]
      have e : ms_ps s f i k + 5 * s k * f (5 + i - k) = ms_ps s f i (k + 1) := by
        show _ = ms_ps s f i k + ms_pt s f i k
        unfold ms_pt
        rw [if_neg (by omega)]
      rw [e]
      exact mu_i hs hf hi m (k + 1) (by omega)
    · simp (disch := omega) only [↓mi_109_14, ↓mi_109_15, ↓mi_109_18, ↓mi_109_19, ↓mi_109_21, ↓mi_109_22, ↓mi_109_25, ↓mi_109_26, ↓mi_109_29, ↓mi_109_31, ↓mi_109_32, ↓mi_109_33, ↓mi_109_36, ↓mi_109_37, ↓mi_109_39, ↓mi_109_40, ↓mi_109_41, ↓mi_109_42, ↓mi_109_45, ↓mi_109_48, ↓mi_109_49, ↓mi_109_52, ↓mi_109_54, ↓mi_109_55, ↓mi_109_56, ↓mi_109_57, ↓mi_109_60, ↓mi_109_61, ↓mi_109_62, ↓mi_109_63, ↓mi_109_65, ↓mi_109_66, ↓mi_109_67, ↓mi_109_68, ↓mi_109_69, ↓mi_109_70, ↓mi_109_73, cond_true, mz_clv, mz_cln, Bool.false_or, Bool.true_or, Bool.or_false, Bool.or_true, if_true, if_false, ite_self, o1_10, o1_9, na_le, na_lt, na_up, pk_sub, if_neg, if_pos, hs, hf, mL_at, lN_add, lN_mul]
      have e : ms_ps s f i k + s k * f (i - k) = ms_ps s f i (k + 1) := by
        show _ = ms_ps s f i k + ms_pt s f i k
        unfold ms_pt
        rw [if_pos (by omega)]
      rw [e]
      exact mu_i hs hf hi m (k + 1) (by omega)
def ms_wk (k : Nat) (s f g : Nat → Nat) : Nat → Nat := fun i => if i < k then ms_ps s f i 5 else g i
theorem ms_wk_s (k : Nat) (s f g : Nat → Nat) : ms_uN (ms_wk k s f g) k (ms_ps s f k 5) = ms_wk (k + 1) s f g := by
  funext i
  unfold ms_uN ms_wk
  by_cases hk : i = k
  · subst hk
    simp
  · by_cases h2 : i < k
    · simp [hk, h2, Nat.lt_succ_of_lt h2]
    · simp [hk, h2, show ¬ i < k + 1 by omega]
theorem mu_o {s f g : Nat → Nat} (hs : J 10 0 = ms_mL s) (hf : J 9 0 = ms_mL f) {l2 l3 l4 : Value} : ∀ m k l2 l4 w, m + k = 5 → ms_G 109 2 [.ref (ms_ad 8 0), .int (nI k), l2, .null, l4] [] (ms_Z q w I (ms_u J 11 0 (ms_mL (ms_wk k s f g)))) = some (.inl none, ms_Z q true I (ms_u (ms_u J 11 0 (ms_mL (ms_wk 5 s f g))) 10 0 (va_cpy (ms_mL (ms_wk 5 s f g)) (ms_mL s) 0 0 5)))
  | 0, k, l2, l4, w, hk => by
    have : k = 5 := by omega
    subst this
    have hc : mo_d q.1 11 0 10 0 0 0 5 = true := mo_d_ok rfl rfl (by decide) (by decide) (show 0 + 5 ≤ 5 by decide) (show 0 + 5 ≤ 5 by decide) (by decide) (by decide)
    simp (disch := omega) only [↓mi_109_2, ↓mi_109_3, ↓mi_109_4, ↓mi_109_89, ↓mi_109_90, ↓mi_109_93, ↓mi_109_94, ↓mi_109_95, ↓mi_109_98, ↓mi_109_99, ↓mi_109_100, ↓mi_109_103, cond_true, mz_clv, mz_cln, Bool.false_or, Bool.true_or, Bool.or_false, Bool.or_true, if_true, if_false, ite_self, ms_u_s, ms_u_r, ms_u_i, ms_u_u, na_le, if_pos, hc, hs]
  | m + 1, k, l2, l4, w, hk => by
    rw [mi_109_2]
    simp (disch := omega) only [↓mi_109_3, ↓mi_109_4, ↓mi_109_7, ↓mi_109_8, ↓mi_109_9, ↓mi_109_10, na_le, if_neg]
    have h := mu_i (q := q) (w := w) (I := I) (J := ms_u J 11 0 (ms_mL (ms_wk k s f g))) (s := s) (f := f) (by rw [ms_u_r _ _ _ _ (by decide)]; exact hs) (by rw [ms_u_r _ _ _ _ (by decide)]; exact hf) (i := k) (by omega) 5 0 rfl
    refine h.trans ?_
    simp (disch := omega) only [↓mi_109_76, ↓mi_109_77, ↓mi_109_80, ↓mi_109_81, ↓mi_109_82, ↓mi_109_83, ↓mi_109_86, cond_true, mz_clv, mz_cln, Bool.false_or, Bool.true_or, Bool.or_false, Bool.or_true, if_true, if_false, ite_self, ms_u_s, ms_u_r, ms_u_i, ms_u_u, o1_11, na_up, mL_upd, ms_wk_s]
    exact mu_o hs hf (g := g) (l2 := .null) (l3 := .null) (l4 := .null) m (k + 1) _ _ true (by omega)
theorem sp_109 {s f : Nat → Nat} (hs : J 10 0 = ms_mL s) (hf : J 9 0 = ms_mL f) : ∃ W, ms_G 109 0 [.ref (ms_ad 8 0), .null, .null, .null, .null] [] (ms_Z q false I J) = some (.inl none, ms_Z q true I (ms_u (ms_u J 11 0 W) 10 0 (ms_mL (ms_wk 5 s f s)))) := by
  obtain ⟨g, hg⟩ := mL_of (J 11 0)
  have h := mu_o (q := q) (I := I) (J := J) hs hf (g := g) (l2 := .null) (l3 := .null) (l4 := .null) 5 0 .null .null false rfl
  have e0 : ms_wk 0 s f g = g := by
    funext i
    exact if_neg (Nat.not_lt_zero i)
  have e := ms_u_id J 11 0
  rw [hg] at e
  rw [e0, e] at h
  refine ⟨ms_mL (ms_wk 5 s f g), ?_⟩
  simp only [↓mi_109_0, ↓mi_109_1]
  refine h.trans ?_
  have e5 : va_cpy (ms_mL (ms_wk 5 s f g)) (ms_mL s) 0 0 5 = ms_mL (ms_wk 5 s f s) := by
    funext i
    by_cases hi : i < 5
    · rw [pk_cpy_in (Nat.zero_le _) (by omega), Nat.zero_add, Nat.sub_zero]
      show lN (if i < 5 then _ else _) = lN (if i < 5 then _ else _)
      rw [if_pos hi, if_pos hi]
    · rw [pk_cpy_out (by omega)]
      show lN _ = lN (if i < 5 then _ else _)
      rw [if_neg hi]
  rw [e5]
end Poly
