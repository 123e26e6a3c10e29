/-! THE MODEL'S: a block is taken in. -/
theorem vs_smul (a : Nat) : ∀ (m : Nat) (g : Nat → Nat), ms_vs m (fun n => a * g n) = a * ms_vs m g
  | 0, _ => by show 0 = a * 0; omega
  | m + 1, g => by
    have h := vs_smul a m (fun n => g (n + 1))
    show a * g 0 + 8192 * ms_vs m (fun n => a * g (n + 1)) = a * (g 0 + 8192 * ms_vs m (fun n => g (n + 1)))
    rw [h]
    grind
theorem vs_top (k : Nat) (s : Nat → Nat) : ms_vs (k + 1) s = ms_vs k s + 8192 ^ k * s k := by
  rw [vs_split k 1 s]
  show _ + 8192 ^ k * (s (0 + k) + 8192 * 0) = _
  rw [Nat.zero_add, Nat.mul_zero, Nat.add_zero]
theorem vs_of : ∀ (m N : Nat), ms_vs m (fun i => N / 2 ^ (13 * i) % 2 ^ 13) = N % 8192 ^ m
  | 0, N => by
    show 0 = N % 1
    omega
  | m + 1, N => by
    have h := vs_of m (N / 8192)
    have e : (fun n => N / 2 ^ (13 * (n + 1)) % 2 ^ 13) = (fun n => N / 8192 / 2 ^ (13 * n) % 2 ^ 13) := by
      funext n
      rw [show 13 * (n + 1) = 13 + 13 * n by omega, Nat.pow_add, ← Nat.div_div_eq_div_mul]
    show N / 2 ^ (13 * 0) % 2 ^ 13 + 8192 * ms_vs m (fun n => N / 2 ^ (13 * (n + 1)) % 2 ^ 13) = _
    have e2 : 8192 ^ (m + 1) = 8192 * 8192 ^ m := by rw [Nat.pow_succ, Nat.mul_comm]
    rw [e, h, e2, Nat.mod_mul, Nat.mul_zero, Nat.pow_zero, Nat.div_one]
def mp_ad (k : Nat) (h x : Nat → Nat) : Nat → Nat := fun i => if i < k then h i + x i else h i
theorem mp_ad_s (k : Nat) (h x : Nat → Nat) : ms_uN (mp_ad k h x) k (h k + x k) = mp_ad (k + 1) h x := by
  funext i
  unfold ms_uN mp_ad
  by_cases hk : i = k
  · subst hk
    simp
  · by_cases h2 : i < k
    · simp [hk, h2, Nat.lt_succ_of_lt h2]
    · simp [hk, h2, show ¬ i < k + 1 by omega]
theorem mp_ad_k (k : Nat) (h x : Nat → Nat) : mp_ad k h x k = h k := if_neg (Nat.lt_irrefl k)
def mp_ze (k : Nat) (g : Nat → Nat) : Nat → Nat := fun i => if i < k then 0 else g i
theorem mp_ze_s (k : Nat) (g : Nat → Nat) : ms_uN (mp_ze k g) k 0 = mp_ze (k + 1) g := by
  funext i
  unfold ms_uN mp_ze
  by_cases hk : i = k
  · subst hk
    simp
  · by_cases h2 : i < k
    · simp [hk, h2, Nat.lt_succ_of_lt h2]
    · simp [hk, h2, show ¬ i < k + 1 by omega]
def mp_in (g s f : Nat → Nat) (i k : Nat) : Nat → Nat := fun n => g n + (if i ≤ n ∧ n < i + k then s i * f (n - i) else 0)
theorem mp_in_s (g s f : Nat → Nat) (i k : Nat) : ms_uN (mp_in g s f i k) (i + k) (mp_in g s f i k (i + k) + s i * f k) = mp_in g s f i (k + 1) := by
  funext n
  unfold ms_uN mp_in
  by_cases hn : n = i + k
  · subst hn
    rw [if_pos rfl, if_neg (by omega), if_pos (by omega), Nat.add_sub_cancel_left]
    omega
  · rw [if_neg hn]
    by_cases h2 : i ≤ n ∧ n < i + k
    · rw [if_pos h2, if_pos (by omega)]
    · rw [if_neg h2, if_neg (by omega)]
theorem mp_in_0 (g s f : Nat → Nat) (i : Nat) : mp_in g s f i 0 = g := by
  funext n
  unfold mp_in
  rw [if_neg (by omega), Nat.add_zero]
def mp_P (z s f : Nat → Nat) : Nat → Nat → Nat
  | 0 => z
  | i + 1 => mp_in (mp_P z s f i) s f i 10
def mp_fo (k : Nat) (P s : Nat → Nat) : Nat → Nat := fun i => if i < k then P i + 5 * P (i + 10) else s i
theorem mp_fo_s (k : Nat) (P s : Nat → Nat) : ms_uN (mp_fo k P s) k (P k + 5 * P (k + 10)) = mp_fo (k + 1) P s := by
  funext i
  unfold ms_uN mp_fo
  by_cases hk : i = k
  · subst hk
    simp
  · by_cases h2 : i < k
    · simp [hk, h2, Nat.lt_succ_of_lt h2]
    · simp [hk, h2, show ¬ i < k + 1 by omega]
-- its value
theorem P_vs {z s f : Nat → Nat} (hz : ∀ n, n < 20 → z n = 0) : ∀ k, k ≤ 10 → ms_vs 20 (mp_P z s f k) = ms_vs k s * ms_vs 10 f
  | 0, _ => by
    show ms_vs 20 z = 0 * _
    rw [vs_congr 20 (h := fun _ => 0) hz, vs_zero, Nat.zero_mul]
  | k + 1, hk => by
    have ih := P_vs (s := s) (f := f) hz k (by omega)
    show ms_vs 20 (fun n => mp_P z s f k n + (if k ≤ n ∧ n < k + 10 then s k * f (n - k) else 0)) = _
    rw [vs_add, ih, vs_row (s k) 10 f k 20 (by omega), vs_top k s, Nat.add_mul, Nat.mul_assoc]
theorem P_lt {z s f : Nat → Nat} (hz : ∀ n, n < 20 → z n = 0) (hs : ∀ i, i < 10 → s i < 16392) (hf : ∀ i, i < 10 → f i < 8192) : ∀ k, k ≤ 10 → ∀ n, n < 20 → mp_P z s f k n ≤ k * 134283264
  | 0, _, n, hn => by
    show z n ≤ _
    rw [hz n hn]
    omega
  | k + 1, hk, n, hn => by
    have ih := P_lt hz hs hf k (by omega) n hn
    show mp_P z s f k n + (if k ≤ n ∧ n < k + 10 then s k * f (n - k) else 0) ≤ (k + 1) * 134283264
    have : (if k ≤ n ∧ n < k + 10 then s k * f (n - k) else 0) ≤ 134283264 := by
      split
      · have a1 := hs k (by omega)
        have a2 := hf (n - k) (by omega)
        exact Nat.le_trans (Nat.mul_le_mul (Nat.le_of_lt a1) (Nat.le_of_lt a2)) (by decide)
      · omega
    omega
theorem fo_vs {z s f t : Nat → Nat} (hz : ∀ n, n < 20 → z n = 0) : ∃ K, ms_vs 10 s * ms_vs 10 f = ms_vs 10 (mp_fo 10 (mp_P z s f 10) t) + 1361129467683753853853498429727072845819 * K := by
  refine ⟨ms_vs 10 (fun n => mp_P z s f 10 (n + 10)), ?_⟩
  rw [← P_vs hz 10 (Nat.le_refl _), vs_split 10 10, vs_congr 10 (g := mp_fo 10 (mp_P z s f 10) t) (h := fun n => mp_P z s f 10 n + 5 * mp_P z s f 10 (n + 10)) (fun n hn => if_pos hn), vs_add, vs_smul 5 10 (fun n => mp_P z s f 10 (n + 10))]
  generalize ms_vs 10 (fun n => mp_P z s f 10 (n + 10)) = A
  generalize ms_vs 10 (mp_P z s f 10) = B
  omega
theorem st_vs (h : Nat → Nat) : ms_vs 10 h = ms_vs 10 (mp_st h) + 1361129467683753853853498429727072845819 * mp_o3 h 0 10 := by
  have h1 := c3_vs 10 h 0
  have h2 : ms_vs 10 (mp_st h) = ms_vs 10 (mp_c3 10 h 0) + 5 * mp_o3 h 0 10 := by
    show (mp_c3 10 h 0 0 + 5 * mp_o3 h 0 10) + 8192 * ms_vs 9 (fun n => mp_c3 10 h 0 (n + 1)) = mp_c3 10 h 0 0 + 8192 * ms_vs 9 (fun n => mp_c3 10 h 0 (n + 1)) + 5 * mp_o3 h 0 10
    omega
  rw [h2]
  generalize mp_o3 h 0 10 = A at *
  generalize ms_vs 10 (mp_c3 10 h 0) = B at *
  omega
def mp_Nm (h : Nat → Nat) : Prop := h 0 < 8200 ∧ ∀ i, 1 ≤ i → i < 10 → h i < 8192
theorem c3_lt (h : Nat → Nat) (c : Nat) {i : Nat} (hi : i < 10) : mp_c3 10 h c i < 8192 := by
  unfold mp_c3
  rw [if_pos hi]
  exact Nat.mod_lt _ (by decide)
theorem st_hi (h : Nat → Nat) {i : Nat} (h1 : 1 ≤ i) (hi : i < 10) : mp_st h i < 8192 := by
  unfold mp_st
  rw [uN_n _ _ _ (by omega)]
  exact c3_lt h 0 hi
theorem o3_b1 {h : Nat → Nat} (hb : ∀ i, i < 10 → h i < 8589934592) : ∀ k, k ≤ 10 → mp_o3 h 0 k ≤ 1048704
  | 0, _ => Nat.zero_le _
  | k + 1, hk => by
    have h1 := o3_b1 hb k (by omega)
    have h2 := hb k (by omega)
    show (h k + mp_o3 h 0 k) / 8192 ≤ _
    omega
theorem o3_b2 {h : Nat → Nat} (h0 : h 0 ≤ 5251711) (hb : ∀ i, 1 ≤ i → i < 10 → h i < 8192) : ∀ k, k + 2 ≤ 10 → mp_o3 h 0 (k + 2) ≤ 1
  | 0, _ => by
    have := hb 1 (by omega) (by omega)
    show (h 1 + (h 0 + 0) / 8192) / 8192 ≤ 1
    omega
  | k + 1, hk => by
    have h1 := o3_b2 h0 hb k (by omega)
    have h2 := hb (k + 2) (by omega) (by omega)
    show (h (k + 2) + mp_o3 h 0 (k + 2)) / 8192 ≤ 1
    omega
theorem st2_Nm {h : Nat → Nat} (hb : ∀ i, i < 10 → h i < 8589934592) : mp_Nm (mp_st (mp_st h)) := by
  have e1 := o3_b1 hb 10 (Nat.le_refl _)
  have c1 := c3_lt h 0 (i := 0) (by decide)
  have s0 : mp_st h 0 ≤ 5251711 := by
    show mp_c3 10 h 0 0 + 5 * mp_o3 h 0 10 ≤ _
    omega
  have e2 : mp_o3 (mp_st h) 0 10 ≤ 1 := o3_b2 s0 (fun i h1 h2 => st_hi h h1 h2) 8 (by omega)
  have c2 := c3_lt (mp_st h) 0 (i := 0) (by decide)
  refine ⟨?_, fun i h1 h2 => st_hi _ h1 h2⟩
  show mp_c3 10 (mp_st h) 0 0 + 5 * mp_o3 (mp_st h) 0 10 < 8200
  omega
theorem st_fit {h : Nat → Nat} (hb : ∀ i, i < 10 → h i < 8589934592) : ∀ i, i < 10 → mp_st h i < 1099511627776 := by
  intro i hi
  by_cases h1 : 1 ≤ i
  · have := st_hi h h1 hi
    omega
  · have : i = 0 := by omega
    subst this
    have e1 := o3_b1 hb 10 (Nat.le_refl _)
    have c1 := c3_lt h 0 (i := 0) (by decide)
    show mp_c3 10 h 0 0 + 5 * mp_o3 h 0 10 < _
    omega
section Abs
variable {q : Nat × Nat} {w : Bool} {I : ms_i} {J : ms_j} {σ : ms_M}
theorem ab_1 {h x : Nat → Nat} (hx : J 65 0 = ms_mL x) : ∀ m k l2, m + k = 10 → ms_G 29 14 [.ref (ms_ad 40 0), .int (nI k), l2] [] (ms_Z q true I (ms_u J 60 0 (ms_mL (mp_ad k h x)))) = ms_G 29 41 [.ref (ms_ad 40 0), .int (nI 10), l2] [] (ms_Z q true I (ms_u J 60 0 (ms_mL (mp_ad 10 h x))))
  | 0, k, l2, hk => by
    have : k = 10 := by omega
    subst this
    simp (disch := omega) only [↓mi_29_14, ↓mi_29_15, ↓mi_29_17, na_le, if_pos]
  | m + 1, k, l2, hk => by
    rw [mi_29_14]
    simp (disch := omega) only [↓mi_29_15, ↓mi_29_17, ↓mi_29_20, ↓mi_29_21, ↓mi_29_24, ↓mi_29_25, ↓mi_29_26, ↓mi_29_27, ↓mi_29_28, ↓mi_29_31, ↓mi_29_32, ↓mi_29_33, ↓mi_29_34, ↓mi_29_35, ↓mi_29_38, cond_true, mz_clv, mz_cln, Bool.false_or, Bool.true_or, Bool.or_false, Bool.or_true, if_true, if_false, ite_self, ms_u_s, ms_u_r, ms_u_i, ms_u_u, o1_60, o1_65, na_le, na_up, if_neg, hx, mL_at, mL_upd, lN_add, mp_ad_k, mp_ad_s]
    exact ab_1 hx m (k + 1) l2 (by omega)
theorem ab_2 {g : Nat → Nat} : ∀ m k l2, m + k = 20 → ms_G 29 43 [.ref (ms_ad 40 0), .int (nI k), l2] [] (ms_Z q true I (ms_u J 62 0 (ms_mL (mp_ze k g)))) = ms_G 29 62 [.ref (ms_ad 40 0), .int (nI 20), l2] [] (ms_Z q true I (ms_u J 62 0 (ms_mL (mp_ze 20 g))))
  | 0, k, l2, hk => by
    have : k = 20 := by omega
    subst this
    simp (disch := omega) only [↓mi_29_43, ↓mi_29_44, ↓mi_29_46, na_le, if_pos]
  | m + 1, k, l2, hk => by
    rw [mi_29_43]
    simp (disch := omega) only [↓mi_29_44, ↓mi_29_46, ↓mi_29_49, ↓mi_29_50, ↓mi_29_53, ↓mi_29_54, ↓mi_29_55, ↓mi_29_56, ↓mi_29_59, cond_true, mz_clv, mz_cln, Bool.false_or, Bool.true_or, Bool.or_false, Bool.or_true, if_true, if_false, ite_self, ms_u_s, ms_u_r, ms_u_i, ms_u_u, o1_62, na_le, na_up, if_neg, mL_at, mL_upd, mp_ze_s]
    exact ab_2 m (k + 1) l2 (by omega)
theorem ab_3 {g s f : Nat → Nat} (hs : J 60 0 = ms_mL s) (hf : J 61 0 = ms_mL f) {i : Nat} (hi : i < 10) : ∀ m k, m + k = 10 → ms_G 29 72 [.ref (ms_ad 40 0), .int (nI i), .int (nI k)] [] (ms_Z q true I (ms_u J 62 0 (ms_mL (mp_in g s f i k)))) = ms_G 29 108 [.ref (ms_ad 40 0), .int (nI i), .int (nI 10)] [] (ms_Z q true I (ms_u J 62 0 (ms_mL (mp_in g s f i 10))))
  | 0, k, hk => by
    have : k = 10 := by omega
    subst this
    simp (disch := omega) only [↓mi_29_72, ↓mi_29_73, ↓mi_29_75, na_le, if_pos]
  | m + 1, k, hk => by
    rw [mi_29_72]
    simp (disch := omega) only [↓mi_29_73, ↓mi_29_75, ↓mi_29_78, ↓mi_29_79, ↓mi_29_82, ↓mi_29_83, ↓mi_29_84, ↓mi_29_85, ↓mi_29_86, ↓mi_29_87, ↓mi_29_88, ↓mi_29_91, ↓mi_29_92, ↓mi_29_93, ↓mi_29_94, ↓mi_29_97, ↓mi_29_98, ↓mi_29_99, ↓mi_29_100, ↓mi_29_101, ↓mi_29_102, ↓mi_29_105, cond_true, mz_clv, mz_cln, Bool.false_or, Bool.true_or, Bool.or_false, Bool.or_true, if_true, if_false, ite_self, ms_u_s, ms_u_r, ms_u_i, ms_u_u, o1_60, o1_61, o1_62, na_le, na_up, if_neg, hs, hf, mL_at, mL_upd, lN_add, lN_mul, mp_in_s]
    exact ab_3 hs hf hi m (k + 1) (by omega)
theorem ab_4 {z s f : Nat → Nat} (hs : J 60 0 = ms_mL s) (hf : J 61 0 = ms_mL f) : ∀ m k l2, m + k = 10 → ∃ l2', ms_G 29 64 [.ref (ms_ad 40 0), .int (nI k), l2] [] (ms_Z q true I (ms_u J 62 0 (ms_mL (mp_P z s f k)))) = ms_G 29 114 [.ref (ms_ad 40 0), .int (nI 10), l2'] [] (ms_Z q true I (ms_u J 62 0 (ms_mL (mp_P z s f 10))))
  | 0, k, l2, hk => by
    have : k = 10 := by omega
    subst this
    refine ⟨l2, ?_⟩
    simp (disch := omega) only [↓mi_29_64, ↓mi_29_65, ↓mi_29_67, na_le, if_pos]
  | m + 1, k, l2, hk => by
    have h := ab_3 (q := q) (I := I) (J := J) (g := mp_P z s f k) hs hf (i := k) (by omega) 10 0 rfl
    rw [mp_in_0] at h
    obtain ⟨l2', ih⟩ := ab_4 (z := z) hs hf m (k + 1) (.int (nI 10)) (by omega)
    refine ⟨l2', ?_⟩
    rw [mi_29_64]
    simp (disch := omega) only [↓mi_29_65, ↓mi_29_67, ↓mi_29_70, ↓mi_29_71, na_le, if_neg]
    rw [h]
    simp (disch := omega) only [↓mi_29_108, ↓mi_29_111, na_up]
    exact ih
theorem ab_5 {P s : Nat → Nat} (hP : J 62 0 = ms_mL P) : ∀ m k l2, m + k = 10 → ms_G 29 116 [.ref (ms_ad 40 0), .int (nI k), l2] [] (ms_Z q true I (ms_u J 60 0 (ms_mL (mp_fo k P s)))) = ms_G 29 154 [.ref (ms_ad 40 0), .int (nI 10), l2] [] (ms_Z q true I (ms_u J 60 0 (ms_mL (mp_fo 10 P s))))
  | 0, k, l2, hk => by
    have : k = 10 := by omega
    subst this
    simp (disch := omega) only [↓mi_29_116, ↓mi_29_117, ↓mi_29_119, na_le, if_pos]
  | m + 1, k, l2, hk => by
    rw [mi_29_116]
    simp (disch := omega) only [↓mi_29_117, ↓mi_29_119, ↓mi_29_122, ↓mi_29_123, ↓mi_29_126, ↓mi_29_127, ↓mi_29_128, ↓mi_29_131, ↓mi_29_132, ↓mi_29_133, ↓mi_29_136, ↓mi_29_137, ↓mi_29_140, ↓mi_29_141, ↓mi_29_143, ↓mi_29_144, ↓mi_29_145, ↓mi_29_146, ↓mi_29_147, ↓mi_29_148, ↓mi_29_151, cond_true, mz_clv, mz_cln, Bool.false_or, Bool.true_or, Bool.or_false, Bool.or_true, if_true, if_false, ite_self, ms_u_s, ms_u_r, ms_u_i, ms_u_u, o1_60, o1_62, na_le, na_up, if_neg, hP, mL_at, mL_upd, lN_add, lN_mul, mp_fo_s]
    exact ab_5 hP m (k + 1) l2 (by omega)
def ms_fM (J J' : ms_j) : Prop := ∀ r u, r ≠ 60 → r ≠ 62 → r ≠ 65 → J' r u = J r u
theorem sp_29 {h f : Nat → Nat} (hh : J 60 0 = ms_mL h) (hf : J 61 0 = ms_mL f) (hn : mp_Nm h) (hfb : ∀ i, i < 10 → f i < 8192) : ∃ J' h', ms_G 29 0 [.ref (ms_ad 40 0), .null, .null] [] (ms_Z q false I J) = some (.inl none, ms_Z q true I J') ∧ J' 60 0 = ms_mL h' ∧ mp_Nm h' ∧ ms_vs 10 h' % 1361129467683753853853498429727072845819 = (ms_vs 10 h + ms_n128 (I 63 0) 1) * ms_vs 10 f % 1361129467683753853853498429727072845819 ∧ ms_fM J J' := by
  obtain ⟨g65, e65⟩ := mL_of (J 65 0)
  obtain ⟨g62, e62⟩ := mL_of (J 62 0)
  have h1 := sp_28 (q := q) (I := I) (J := J) (r := 65) (e := 1) (by decide) (fun i hi => o1_65 hi) e65
  obtain ⟨N, eN⟩ : ∃ N, N = ms_n128 (I 63 0) 1 := ⟨_, rfl⟩
  have hN : N < 2 ^ 129 := by rw [eN]; exact (nn_top (I 63 0) (by decide)).2
  rw [← eN] at h1 ⊢
  obtain ⟨s, es⟩ : ∃ s, s = mp_ad 10 h (ms_sp 10 N g65) := ⟨_, rfl⟩
  have h2 := ab_1 (q := q) (I := I) (J := ms_u J 65 0 (ms_mL (ms_sp 10 N g65))) (h := h) (x := ms_sp 10 N g65) (ms_u_s _ _ _ _) 10 0 .null rfl
  have a0 : mp_ad 0 h (ms_sp 10 N g65) = h := by
    funext i
    exact if_neg (Nat.not_lt_zero i)
  have a1 : ms_u (ms_u J 65 0 (ms_mL (ms_sp 10 N g65))) 60 0 (ms_mL h) = ms_u J 65 0 (ms_mL (ms_sp 10 N g65)) := by
    have := ms_u_id (ms_u J 65 0 (ms_mL (ms_sp 10 N g65))) 60 0
    rw [ms_u_r _ 65 0 _ (by decide), hh] at this
    exact this
  rw [a0, a1, ← es] at h2
  obtain ⟨J1, eJ1⟩ : ∃ J1, J1 = ms_u (ms_u J 65 0 (ms_mL (ms_sp 10 N g65))) 60 0 (ms_mL s) := ⟨_, rfl⟩
  rw [← eJ1] at h2
  have h3 := ab_2 (q := q) (I := I) (J := J1) (g := g62) 20 0 .null rfl
  have b0 : mp_ze 0 g62 = g62 := by
    funext i
    exact if_neg (Nat.not_lt_zero i)
  have b1 : ms_u J1 62 0 (ms_mL g62) = J1 := by
    have := ms_u_id J1 62 0
    rw [eJ1, ms_u_r _ _ _ _ (by decide), ms_u_r _ _ _ _ (by decide), e62, ← eJ1] at this
    exact this
  rw [b0, b1] at h3
  obtain ⟨l2', h4⟩ := ab_4 (q := q) (I := I) (J := J1) (z := mp_ze 20 g62) (s := s) (f := f) (by rw [eJ1, ms_u_s]) (by rw [eJ1, ms_u_r _ _ _ _ (by decide), ms_u_r _ _ _ _ (by decide)]; exact hf) 10 0 .null rfl
  have hz : ∀ n, n < 20 → mp_ze 20 g62 n = 0 := fun n hn => if_pos hn
  obtain ⟨P, eP⟩ : ∃ P, P = mp_P (mp_ze 20 g62) s f 10 := ⟨_, rfl⟩
  rw [← eP] at h4
  obtain ⟨J2, eJ2⟩ : ∃ J2, J2 = ms_u J1 62 0 (ms_mL P) := ⟨_, rfl⟩
  rw [← eJ2] at h4
  have h5 := ab_5 (q := q) (I := I) (J := J2) (P := P) (s := s) (by rw [eJ2, ms_u_s]) 10 0 l2' rfl
  have c0 : mp_fo 0 P s = s := by
    funext i
    exact if_neg (Nat.not_lt_zero i)
  have c1 : ms_u J2 60 0 (ms_mL s) = J2 := by
    have := ms_u_id J2 60 0
    rw [eJ2, ms_u_r _ _ _ _ (by decide), eJ1, ms_u_s, ← eJ1, ← eJ2] at this
    exact this
  rw [c0, c1] at h5
  have hs : ∀ i, i < 10 → s i < 16392 := by
    intro i hi
    rw [es]
    unfold mp_ad ms_sp
    rw [if_pos hi, if_pos hi]
    have : N / 2 ^ (13 * i) % 2 ^ 13 < 8192 := Nat.mod_lt _ (by decide)
    by_cases h0 : i = 0
    · have := hn.1
      rw [h0] at *
      omega
    · have := hn.2 i (by omega) hi
      omega
  have hb : ∀ i, i < 10 → mp_fo 10 P s i < 8589934592 := by
    intro i hi
    unfold mp_fo
    rw [if_pos hi, eP]
    have p1 := P_lt hz hs hfb 10 (Nat.le_refl _) i (by omega)
    have p2 := P_lt hz hs hfb 10 (Nat.le_refl _) (i + 10) (by omega)
    omega
  have h6 := sp_30 (q := q) (I := I) (J := ms_u J2 60 0 (ms_mL (mp_fo 10 P s))) (ms_u_s _ _ _ _) (fun i hi => by have := hb i hi; omega)
  have h7 := sp_30 (q := q) (I := I) (J := ms_u (ms_u J2 60 0 (ms_mL (mp_fo 10 P s))) 60 0 (ms_mL (mp_st (mp_fo 10 P s)))) (ms_u_s _ _ _ _) (st_fit hb)
  refine ⟨ms_u (ms_u (ms_u J2 60 0 (ms_mL (mp_fo 10 P s))) 60 0 (ms_mL (mp_st (mp_fo 10 P s)))) 60 0 (ms_mL (mp_st (mp_st (mp_fo 10 P s)))), mp_st (mp_st (mp_fo 10 P s)), ?_, ms_u_s _ _ _ _, st2_Nm hb, ?_, ?_⟩
  · simp (disch := omega) only [↓mi_29_0, ↓mi_29_1, ↓mi_29_4, ↓mi_29_5, ↓mi_29_8, ↓mi_29_9, ↓mi_29_12, ↓mi_29_13, cond_true, mz_clv, mz_cln, Bool.false_or, Bool.true_or, Bool.or_false, Bool.or_true, if_true, if_false, ite_self, h1]
    rw [h2]
    simp only [mi_29_41, mi_29_42]
    rw [h3]
    simp only [mi_29_62, mi_29_63]
    refine h4.trans ?_
    simp only [mi_29_114, mi_29_115]
    rw [h5]
    simp only [↓mi_29_154, ↓mi_29_155, ↓mi_29_158, ↓mi_29_159, ↓mi_29_162, cond_true, mz_clv, mz_cln, Bool.false_or, Bool.true_or, Bool.or_false, Bool.or_true, if_true, if_false, ite_self, h6, h7]
  · obtain ⟨K, hK⟩ := fo_vs (z := mp_ze 20 g62) (s := s) (f := f) (t := s) hz
    rw [← eP] at hK
    have v1 : ms_vs 10 s = ms_vs 10 h + N := by
      have : ms_vs 10 s = ms_vs 10 (fun i => h i + N / 2 ^ (13 * i) % 2 ^ 13) := vs_congr 10 (fun n hn => by
        rw [es]
        unfold mp_ad ms_sp
        rw [if_pos hn, if_pos hn])
      rw [this, vs_add, vs_of, Nat.mod_eq_of_lt (Nat.lt_trans hN (by decide))]
    rw [← v1, hK, st_vs (mp_fo 10 P s), st_vs (mp_st (mp_fo 10 P s)), Nat.add_mul_mod_self_left, Nat.add_mul_mod_self_left, Nat.add_mul_mod_self_left]
  · intro r u k60 k62 k65
    rw [ms_u_r _ _ _ _ k60, ms_u_r _ _ _ _ k60, ms_u_r _ _ _ _ k60, eJ2, ms_u_r _ _ _ _ k62, eJ1, ms_u_r _ _ _ _ k60, ms_u_r _ _ _ _ k65]
end Abs
