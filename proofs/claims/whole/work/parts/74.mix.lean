/-! CHACHA20: the model's; the words of a block. -/
def ms_fl (k : Nat) (x : Int32) (f : Nat → Int32) : Nat → Int32 := fun i => if i < k then x else f i
theorem ms_fl_s (k : Nat) (x : Int32) (f : Nat → Int32) : upd (ms_fl k x f) k x = ms_fl (k + 1) x f := by
  funext i
  unfold ms_fl upd
  by_cases h : i = k
  · subst h
    simp
  · by_cases h2 : i < k
    · simp [h, h2, Nat.lt_succ_of_lt h2]
    · simp [h, h2, show ¬ i < k + 1 by omega]
theorem ms_fl_0 (x : Int32) (f : Nat → Int32) : ms_fl 0 x f = f := by
  funext i
  exact if_neg (Nat.not_lt_zero i)
def ms_cp (k : Nat) (s f : Nat → Int32) : Nat → Int32 := fun i => if i < k then s i else f i
theorem ms_cp_s (k : Nat) (s f : Nat → Int32) : upd (ms_cp k s f) k (s k) = ms_cp (k + 1) s f := by
  funext i
  unfold ms_cp upd
  by_cases h : i = k
  · subst h
    simp
  · by_cases h2 : i < k
    · simp [h, h2, Nat.lt_succ_of_lt h2]
    · simp [h, h2, show ¬ i < k + 1 by omega]
theorem ms_cp_0 (s f : Nat → Int32) : ms_cp 0 s f = f := by
  funext i
  exact if_neg (Nat.not_lt_zero i)
def ms_itd : Nat → (Nat → Int32) → Nat → Int32
  | 0, f => f
  | k + 1, f => ms_rd 1 (ms_rd 0 (ms_itd k f))
theorem ms_itd_its (f : Nat → Int32) : ∀ k, ms_itd k f = ms_its (2 * k) f
  | 0 => rfl
  | k + 1 => by
    show ms_rd 1 (ms_rd 0 (ms_itd k f)) = ms_rd ((2 * k + 1) % 2) (ms_rd (2 * k % 2) (ms_its (2 * k) f))
    rw [ms_itd_its f k, show (2 * k + 1) % 2 = 1 by omega, show 2 * k % 2 = 0 by omega]
section Mix
variable {q : Nat × Nat} {w : Bool} {I : ms_i} {J : ms_j} {σ : ms_M} {v : Nat} {n a b c : Int32} {l7 l8 : Value}
theorem mx_1 {f : Nat → Int32} : ∀ m k w, m + k = 16 → ms_G 26 3 [.ref (ms_ad 40 0), .long (lN v), .null, .int a, .int b, .int c, .int n, .int (nI k), l8] [] (ms_Z q w (ms_u I 58 0 (ms_fl k (nI 0) f)) J) = ms_G 26 24 [.ref (ms_ad 40 0), .long (lN v), .null, .int a, .int b, .int c, .int n, .int (nI 16), l8] [] (ms_Z q (w || decide (0 < m)) (ms_u I 58 0 (ms_fl 16 (nI 0) f)) J)
  | 0, k, w, hk => by
    have : k = 16 := by omega
    subst this
    simp (disch := omega) only [↓mi_26_3, ↓mi_26_5, ↓mi_26_7, na_le, if_pos, Nat.lt_irrefl, decide_false, Bool.or_false]
  | m + 1, k, w, hk => by
    rw [mi_26_3]
    simp (disch := omega) only [↓mi_26_5, ↓mi_26_7, ↓mi_26_10, ↓mi_26_11, ↓mi_26_14, ↓mi_26_16, ↓mi_26_17, ↓mi_26_18, ↓mi_26_21, cond_true, mz_clv, mz_cln, Bool.false_or, Bool.true_or, Bool.or_false, Bool.or_true, if_true, if_false, ite_self, ms_u_s, ms_u_r, ms_u_i, ms_u_u, o0_58, na_le, na_up, if_neg, ms_fl_s]
    rw [mx_1 m (k + 1) true (by omega)]
    simp
theorem mx_2 {f : Nat → Int32} : ∀ m k, m + k = 16 → ms_G 26 113 [.ref (ms_ad 40 0), .long (lN v), .null, .int a, .int b, .int c, .int n, .int (nI k), l8] [] (ms_Z q true (ms_u I 59 0 (ms_cp k (I 58 0) f)) J) = ms_G 26 140 [.ref (ms_ad 40 0), .long (lN v), .null, .int a, .int b, .int c, .int n, .int (nI 16), l8] [] (ms_Z q true (ms_u I 59 0 (ms_cp 16 (I 58 0) f)) J)
  | 0, k, hk => by
    have : k = 16 := by omega
    subst this
    simp (disch := omega) only [↓mi_26_113, ↓mi_26_115, ↓mi_26_117, na_le, if_pos]
  | m + 1, k, hk => by
    rw [mi_26_113]
    simp (disch := omega) only [↓mi_26_115, ↓mi_26_117, ↓mi_26_120, ↓mi_26_121, ↓mi_26_124, ↓mi_26_126, ↓mi_26_127, ↓mi_26_130, ↓mi_26_132, ↓mi_26_133, ↓mi_26_134, ↓mi_26_137, cond_true, mz_clv, mz_cln, Bool.false_or, Bool.true_or, Bool.or_false, Bool.or_true, if_true, if_false, ite_self, ms_u_s, ms_u_r, ms_u_i, ms_u_u, o0_58, o0_59, na_le, na_up, if_neg, ms_cp_s]
    exact mx_2 m (k + 1) (by omega)
theorem mx_c {k i : Nat} (hi : i < 4) : ms_G 26 153 [.ref (ms_ad 40 0), .long (lN v), .null, .int a, .int b, .int c, .int n, .int (nI k), .int (nI i)] [] (ms_Z q true I J) = ms_G 26 153 [.ref (ms_ad 40 0), .long (lN v), .null, .int a, .int b, .int c, .int n, .int (nI k), .int (nI (i + 1))] [] (ms_Z q true (ms_ap 59 0 (ms_qr i (4 + i) (8 + i) (12 + i)) I) J) := by
  rw [mi_26_153]
  simp (disch := omega) only [↓mi_26_155, ↓mi_26_156, ↓mi_26_159, ↓mi_26_160, ↓mi_26_162, ↓mi_26_163, ↓mi_26_165, ↓mi_26_166, ↓mi_26_168, ↓mi_26_170, ↓mi_26_171, ↓mi_26_173, ↓mi_26_175, ↓mi_26_176, ↓mi_26_179, ↓mi_26_182, cond_true, mz_clv, mz_cln, Bool.false_or, Bool.true_or, Bool.or_false, Bool.or_true, if_true, if_false, ite_self, na_le, na_up, if_neg, sp_25]
theorem mx_d {k i : Nat} (hi : i < 4) : ms_G 26 188 [.ref (ms_ad 40 0), .long (lN v), .null, .int a, .int b, .int c, .int n, .int (nI k), .int (nI i)] [] (ms_Z q true I J) = ms_G 26 188 [.ref (ms_ad 40 0), .long (lN v), .null, .int a, .int b, .int c, .int n, .int (nI k), .int (nI (i + 1))] [] (ms_Z q true (ms_ap 59 0 (ms_qr i (4 + (i + 1) % 4) (8 + (i + 2) % 4) (12 + (i + 3) % 4)) I) J) := by
  rw [mi_26_188]
  simp (disch := omega) only [↓mi_26_190, ↓mi_26_191, ↓mi_26_194, ↓mi_26_195, ↓mi_26_197, ↓mi_26_198, ↓mi_26_200, ↓mi_26_201, ↓mi_26_202, ↓mi_26_203, ↓mi_26_204, ↓mi_26_205, ↓mi_26_207, ↓mi_26_209, ↓mi_26_210, ↓mi_26_211, ↓mi_26_212, ↓mi_26_213, ↓mi_26_214, ↓mi_26_216, ↓mi_26_218, ↓mi_26_219, ↓mi_26_220, ↓mi_26_221, ↓mi_26_222, ↓mi_26_223, ↓mi_26_226, ↓mi_26_229, cond_true, mz_clv, mz_cln, Bool.false_or, Bool.true_or, Bool.or_false, Bool.or_true, if_true, if_false, ite_self, na_le, na_up, pk_rem, if_neg, sp_25]
theorem mx_3 {k : Nat} (hk : k < 10) : ms_G 26 143 [.ref (ms_ad 40 0), .long (lN v), .null, .int a, .int b, .int c, .int n, .int (nI k), l8] [] (ms_Z q true I J) = ms_G 26 143 [.ref (ms_ad 40 0), .long (lN v), .null, .int a, .int b, .int c, .int n, .int (nI (k + 1)), .int (nI 4)] [] (ms_Z q true (ms_ap 59 0 (fun f => ms_rd 1 (ms_rd 0 f)) I) J) := by
  rw [mi_26_143]
  simp (disch := omega) only [↓mi_26_145, ↓mi_26_147, ↓mi_26_150, ↓mi_26_151, na_le, if_neg]
  rw [mx_c (by decide), mx_c (by decide), mx_c (by decide), mx_c (by decide)]
  simp (disch := omega) only [↓mi_26_153, ↓mi_26_155, ↓mi_26_156, ↓mi_26_185, ↓mi_26_186, na_le, if_pos, ap_ap]
  rw [mx_d (by decide), mx_d (by decide), mx_d (by decide), mx_d (by decide)]
  simp (disch := omega) only [↓mi_26_188, ↓mi_26_190, ↓mi_26_191, ↓mi_26_232, ↓mi_26_235, na_le, na_up, if_pos, ap_ap]
  rfl
theorem mx_4 {f : Nat → Int32} : ∀ m k, m + k = 16 → ms_G 26 241 [.ref (ms_ad 40 0), .long (lN v), .null, .int a, .int b, .int c, .int n, .int (nI k), l8] [] (ms_Z q true (ms_u I 59 0 (ms_plus k f (I 58 0))) J) = some (.inl none, ms_Z q true (ms_u I 59 0 (ms_plus 16 f (I 58 0))) J)
  | 0, k, hk => by
    have : k = 16 := by omega
    subst this
    simp (disch := omega) only [↓mi_26_241, ↓mi_26_243, ↓mi_26_245, ↓mi_26_248, ↓mi_26_249, ↓mi_26_252, ↓mi_26_254, ↓mi_26_255, ↓mi_26_256, ↓mi_26_257, ↓mi_26_260, ↓mi_26_262, ↓mi_26_263, ↓mi_26_264, ↓mi_26_265, ↓mi_26_268, ↓mi_26_271, cond_true, mz_clv, mz_cln, Bool.false_or, Bool.true_or, Bool.or_false, Bool.or_true, if_true, if_false, ite_self, na_le, if_pos]
  | m + 1, k, hk => by
    rw [mi_26_241]
    simp (disch := omega) only [↓mi_26_243, ↓mi_26_245, ↓mi_26_248, ↓mi_26_249, ↓mi_26_252, ↓mi_26_254, ↓mi_26_255, ↓mi_26_256, ↓mi_26_257, ↓mi_26_260, ↓mi_26_262, ↓mi_26_263, ↓mi_26_264, ↓mi_26_265, ↓mi_26_268, cond_true, mz_clv, mz_cln, Bool.false_or, Bool.true_or, Bool.or_false, Bool.or_true, if_true, if_false, ite_self, ms_u_s, ms_u_r, ms_u_i, ms_u_u, o0_58, o0_59, na_le, na_up, if_neg, ms_plus_s]
    exact mx_4 m (k + 1) (by omega)
theorem mx_5 {f : Nat → Int32} : ∀ m k l8, m + k = 10 → ms_G 26 143 [.ref (ms_ad 40 0), .long (lN v), .null, .int a, .int b, .int c, .int n, .int (nI k), l8] [] (ms_Z q true (ms_u I 59 0 (ms_itd k f)) J) = some (.inl none, ms_Z q true (ms_u I 59 0 (ms_plus 16 (ms_itd 10 f) (I 58 0))) J)
  | 0, k, l8, hk => by
    have : k = 10 := by omega
    subst this
    have e : ms_plus 0 (ms_itd 10 f) (I 58 0) = ms_itd 10 f := by
      funext i
      exact if_neg (Nat.not_lt_zero i)
    have h := mx_4 (q := q) (I := I) (J := J) (v := v) (n := n) (a := a) (b := b) (c := c) (l8 := l8) (f := ms_itd 10 f) 16 0 rfl
    rw [e] at h
    simp (disch := omega) only [↓mi_26_143, ↓mi_26_145, ↓mi_26_147, ↓mi_26_238, ↓mi_26_239, na_le, if_pos]
    exact h
  | m + 1, k, l8, hk => by
    rw [mx_3 (by omega), ap_u]
    exact mx_5 m (k + 1) _ (by omega)
def ms_mxI (I : ms_i) (v : Nat) (n a b c : Int32) : ms_i := ms_u (ms_u I 58 0 (mc_st v n a b c (ms_fl 16 (nI 0) (I 58 0)))) 59 0 (ms_plus 16 (ms_itd 10 (ms_cp 16 (mc_st v n a b c (ms_fl 16 (nI 0) (I 58 0))) (I 59 0))) (mc_st v n a b c (ms_fl 16 (nI 0) (I 58 0))))
theorem sp_26 (hv : v < 2305843009213693951) : ms_G 26 0 [.ref (ms_ad 40 0), .long (lN v), .null, .int a, .int b, .int c, .int n, .null, .null] [] (ms_Z q false I J) = some (.inl none, ms_Z q true (ms_mxI I v n a b c) J) := by
  have h1 := mx_1 (q := q) (I := I) (J := J) (v := v) (n := n) (a := a) (b := b) (c := c) (l8 := .null) (f := I 58 0) 16 0 false rfl
  rw [ms_fl_0, ms_u_id] at h1
  have h2 := mx_2 (q := q) (I := ms_u I 58 0 (mc_st v n a b c (ms_fl 16 (nI 0) (I 58 0)))) (J := J) (v := v) (n := n) (a := a) (b := b) (c := c) (l8 := .null) (f := I 59 0) 16 0 rfl
  rw [ms_cp_0, ms_u_s] at h2
  have h3 := mx_5 (q := q) (I := ms_u I 58 0 (mc_st v n a b c (ms_fl 16 (nI 0) (I 58 0)))) (J := J) (v := v) (n := n) (a := a) (b := b) (c := c) (f := ms_cp 16 (mc_st v n a b c (ms_fl 16 (nI 0) (I 58 0))) (I 59 0)) 10 0 .null rfl
  rw [ms_u_s] at h3
  simp only [mi_26_0, mi_26_1, h1]
  simp (disch := omega) only [↓mi_26_24, ↓mi_26_25, ↓mi_26_28, ↓mi_26_29, ↓mi_26_31, ↓mi_26_32, ↓mi_26_33, ↓mi_26_36, ↓mi_26_37, ↓mi_26_39, ↓mi_26_40, ↓mi_26_41, ↓mi_26_44, ↓mi_26_45, ↓mi_26_47, ↓mi_26_48, ↓mi_26_49, ↓mi_26_52, ↓mi_26_53, ↓mi_26_55, ↓mi_26_56, ↓mi_26_57, ↓mi_26_60, ↓mi_26_61, ↓mi_26_62, ↓mi_26_63, ↓mi_26_64, ↓mi_26_65, ↓mi_26_68, ↓mi_26_69, ↓mi_26_70, ↓mi_26_72, ↓mi_26_73, ↓mi_26_74, ↓mi_26_75, ↓mi_26_76, ↓mi_26_79, ↓mi_26_81, ↓mi_26_83, ↓mi_26_84, ↓mi_26_85, ↓mi_26_88, ↓mi_26_90, ↓mi_26_91, ↓mi_26_92, ↓mi_26_93, ↓mi_26_96, ↓mi_26_98, ↓mi_26_100, ↓mi_26_101, ↓mi_26_102, ↓mi_26_105, ↓mi_26_107, ↓mi_26_109, ↓mi_26_110, ↓mi_26_111, cond_true, mz_clv, mz_cln, Bool.false_or, Bool.true_or, Bool.or_false, Bool.or_true, if_true, if_false, ite_self, ms_u_s, ms_u_r, ms_u_i, ms_u_u, o0_58, lN_i, la_shr]
  have e : ms_u (ms_u I 58 0 (mc_st v n a b c (ms_fl 16 (nI 0) (I 58 0)))) 59 0 (I 59 0) = ms_u I 58 0 (mc_st v n a b c (ms_fl 16 (nI 0) (I 58 0))) := by
    have := ms_u_id (ms_u I 58 0 (mc_st v n a b c (ms_fl 16 (nI 0) (I 58 0)))) 59 0
    rw [ms_u_r I 58 0 _ (by decide)] at this
    exact this
  rw [e] at h2
  refine Eq.trans ?_ (h2.trans ?_)
  · rfl
  · simp only [mi_26_140, mi_26_141]
    exact h3
end Mix
