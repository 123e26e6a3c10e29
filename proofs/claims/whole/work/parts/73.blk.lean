/-! CHACHA20: the whole block. -/
theorem ap_u (r u : Nat) (g : (Nat → Int32) → Nat → Int32) (I : ms_i) (f : Nat → Int32) : ms_ap r u g (ms_u I r u f) = ms_u I r u (g f) := by
  unfold ms_ap
  rw [ms_u_s, ms_u_u]
def mc_st (v : Nat) (n a b c : Int32) (f : Nat → Int32) : Nat → Int32 := upd (upd (upd (upd (upd (upd (upd (upd (upd (upd f 0 (nI 1634760805)) 1 (nI 857760878)) 2 (nI 2036477234)) 3 (nI 1797285236)) 4 (nI v)) 5 (nI (v / 4294967296))) 12 n) 13 a) 14 b) 15 c
section Blk
variable {q : Nat × Nat} {w : Bool} {I : ms_i} {J : ms_j} {σ : ms_M} {v : Nat} {n a b c : Int32} {l8 l9 : Value}
theorem sp_86 {r u k : Nat} (hv : v < 18446744073709551616) (h1 : mo_0 q.1 r u k = true) (h2 : mo_0 q.1 r u (k + 1) = true) : ms_G 86 0 [.long (lN v), .null, .ref (ms_ad r u), .int (nI k)] [] (ms_Z q false I J) = some (.inl none, ms_Z q true (ms_u I r u (upd (upd (I r u) k (nI v)) (k + 1) (nI (v / 4294967296)))) J) := by
  simp (disch := omega) only [↓mi_86_0, ↓mi_86_1, ↓mi_86_2, ↓mi_86_3, ↓mi_86_4, ↓mi_86_5, ↓mi_86_6, ↓mi_86_7, ↓mi_86_8, ↓mi_86_9, ↓mi_86_10, ↓mi_86_12, ↓mi_86_13, ↓mi_86_14, ↓mi_86_15, cond_true, mz_clv, mz_cln, Bool.false_or, Bool.true_or, Bool.or_false, Bool.or_true, if_true, if_false, ite_self, h1, h2, na_up, lN_i, wb_shr, ms_u_s, ms_u_r, ms_u_i, ms_u_u]
theorem bk_1 (hv : v < 2305843009213693951) : ms_G 66 0 [.ref (ms_ad 5 0), .long (lN v), .null, .int n, .int a, .int b, .int c, .null, .null, .null] [] (ms_Z q false I J) = ms_G 66 94 [.ref (ms_ad 5 0), .long (lN v), .null, .int n, .int a, .int b, .int c, .int (nI 0), .null, .null] [] (ms_Z q true (ms_u (ms_u I 6 0 (mc_st v n a b c (I 6 0))) 7 0 (va_cpy (mc_st v n a b c (I 6 0)) (I 7 0) 0 0 16)) J) := by
  have hc : mo_c q.1 6 0 7 0 0 0 16 = true := mo_c_ok rfl rfl (by decide) (by decide) (show 0 + 16 ≤ 16 by decide) (show 0 + 16 ≤ 16 by decide) (by decide) (by decide)
  simp (disch := omega) only [↓mi_66_0, ↓mi_66_1, ↓mi_66_4, ↓mi_66_5, ↓mi_66_7, ↓mi_66_8, ↓mi_66_9, ↓mi_66_12, ↓mi_66_13, ↓mi_66_15, ↓mi_66_16, ↓mi_66_17, ↓mi_66_20, ↓mi_66_21, ↓mi_66_23, ↓mi_66_24, ↓mi_66_25, ↓mi_66_28, ↓mi_66_29, ↓mi_66_31, ↓mi_66_32, ↓mi_66_33, ↓mi_66_34, ↓mi_66_37, ↓mi_66_38, ↓mi_66_41, ↓mi_66_42, ↓mi_66_45, ↓mi_66_47, ↓mi_66_48, ↓mi_66_49, ↓mi_66_50, ↓mi_66_53, ↓mi_66_55, ↓mi_66_57, ↓mi_66_58, ↓mi_66_59, ↓mi_66_62, ↓mi_66_64, ↓mi_66_66, ↓mi_66_67, ↓mi_66_68, ↓mi_66_71, ↓mi_66_73, ↓mi_66_75, ↓mi_66_76, ↓mi_66_77, ↓mi_66_80, ↓mi_66_81, ↓mi_66_82, ↓mi_66_85, ↓mi_66_86, ↓mi_66_88, ↓mi_66_91, ↓mi_66_92, cond_true, mz_clv, mz_cln, Bool.false_or, Bool.true_or, Bool.or_false, Bool.or_true, if_true, if_false, ite_self, ms_u_s, ms_u_r, ms_u_i, ms_u_u, o0_6, sp_86 (r := 6) (u := 0) (k := 4) (v := v) (by omega) (o0_6 (by omega)) (o0_6 (by omega)), hc]
  rfl
theorem bk_i {k t i : Nat} (ht : t < 2) (hi : i < 4) : ms_G 66 110 [.ref (ms_ad 5 0), .long (lN v), .null, .int n, .int a, .int b, .int c, .int (nI k), .int (nI t), .int (nI i)] [] (ms_Z q true I J) = ms_G 66 110 [.ref (ms_ad 5 0), .long (lN v), .null, .int n, .int a, .int b, .int c, .int (nI k), .int (nI t), .int (nI (i + 1))] [] (ms_Z q true (ms_ap 7 0 (ms_qr i (4 + (i + t) % 4) (8 + (i + 2 * t) % 4) (12 + (i + 3 * t) % 4)) I) J) := by
  rw [mi_66_110]
  simp (disch := omega) only [↓mi_66_112, ↓mi_66_113, ↓mi_66_116, ↓mi_66_117, ↓mi_66_119, ↓mi_66_120, ↓mi_66_122, ↓mi_66_124, ↓mi_66_125, ↓mi_66_126, ↓mi_66_127, ↓mi_66_128, ↓mi_66_130, ↓mi_66_132, ↓mi_66_133, ↓mi_66_135, ↓mi_66_136, ↓mi_66_137, ↓mi_66_138, ↓mi_66_139, ↓mi_66_140, ↓mi_66_142, ↓mi_66_144, ↓mi_66_145, ↓mi_66_147, ↓mi_66_148, ↓mi_66_149, ↓mi_66_150, ↓mi_66_151, ↓mi_66_152, ↓mi_66_155, ↓mi_66_158, cond_true, mz_clv, mz_cln, Bool.false_or, Bool.true_or, Bool.or_false, Bool.or_true, if_true, if_false, ite_self, na_le, na_up, pk_mul, pk_rem, if_neg, sp_67]
theorem bk_2 {k : Nat} (hk : k < 20) : ms_G 66 94 [.ref (ms_ad 5 0), .long (lN v), .null, .int n, .int a, .int b, .int c, .int (nI k), l8, l9] [] (ms_Z q true I J) = ms_G 66 94 [.ref (ms_ad 5 0), .long (lN v), .null, .int n, .int a, .int b, .int c, .int (nI (k + 1)), .int (nI (k % 2)), .int (nI 4)] [] (ms_Z q true (ms_ap 7 0 (ms_rd (k % 2)) I) J) := by
  have ht : k % 2 < 2 := Nat.mod_lt _ (by decide)
  rw [mi_66_94]
  simp (disch := omega) only [↓mi_66_96, ↓mi_66_98, ↓mi_66_101, ↓mi_66_103, ↓mi_66_104, ↓mi_66_105, ↓mi_66_107, ↓mi_66_108, na_le, pk_rem, if_neg]
  rw [bk_i ht (by decide), bk_i ht (by decide), bk_i ht (by decide), bk_i ht (by decide)]
  simp (disch := omega) only [↓mi_66_110, ↓mi_66_112, ↓mi_66_113, ↓mi_66_161, ↓mi_66_164, na_le, na_up, if_pos, ap_ap]
  rfl
theorem bk_3 {f : Nat → Int32} : ∀ m k l8 l9, m + k = 16 → ms_G 66 170 [.ref (ms_ad 5 0), .long (lN v), .null, .int n, .int a, .int b, .int c, .int (nI k), l8, l9] [] (ms_Z q true (ms_u I 7 0 (ms_plus k f (I 6 0))) J) = some (.inl (some (.ref (ms_ad 7 0))), ms_Z q true (ms_u I 7 0 (ms_plus 16 f (I 6 0))) J)
  | 0, k, l8, l9, hk => by
    have : k = 16 := by omega
    subst this
    simp (disch := omega) only [↓mi_66_170, ↓mi_66_172, ↓mi_66_174, ↓mi_66_177, ↓mi_66_178, ↓mi_66_181, ↓mi_66_183, ↓mi_66_184, ↓mi_66_185, ↓mi_66_186, ↓mi_66_189, ↓mi_66_191, ↓mi_66_192, ↓mi_66_193, ↓mi_66_194, ↓mi_66_197, ↓mi_66_200, ↓mi_66_201, ↓mi_66_204, cond_true, mz_clv, mz_cln, Bool.false_or, Bool.true_or, Bool.or_false, Bool.or_true, if_true, if_false, ite_self, na_le, if_pos]
  | m + 1, k, l8, l9, hk => by
    rw [mi_66_170]
    simp (disch := omega) only [↓mi_66_172, ↓mi_66_174, ↓mi_66_177, ↓mi_66_178, ↓mi_66_181, ↓mi_66_183, ↓mi_66_184, ↓mi_66_185, ↓mi_66_186, ↓mi_66_189, ↓mi_66_191, ↓mi_66_192, ↓mi_66_193, ↓mi_66_194, ↓mi_66_197, cond_true, mz_clv, mz_cln, Bool.false_or, Bool.true_or, Bool.or_false, Bool.or_true, if_true, if_false, ite_self, ms_u_s, ms_u_r, ms_u_i, ms_u_u, o0_6, o0_7, na_le, na_up, if_neg, ms_plus_s]
    exact bk_3 m (k + 1) l8 l9 (by omega)
theorem bk_4 {f : Nat → Int32} : ∀ m k l8 l9, m + k = 20 → ms_G 66 94 [.ref (ms_ad 5 0), .long (lN v), .null, .int n, .int a, .int b, .int c, .int (nI k), l8, l9] [] (ms_Z q true (ms_u I 7 0 (ms_its k f)) J) = some (.inl (some (.ref (ms_ad 7 0))), ms_Z q true (ms_u I 7 0 (ms_plus 16 (ms_its 20 f) (I 6 0))) J)
  | 0, k, l8, l9, hk => by
    have : k = 20 := by omega
    subst this
    have e : ms_plus 0 (ms_its 20 f) (I 6 0) = ms_its 20 f := by
      funext i
      exact if_neg (Nat.not_lt_zero i)
    have h := bk_3 (q := q) (I := I) (J := J) (v := v) (n := n) (a := a) (b := b) (c := c) (f := ms_its 20 f) 16 0 l8 l9 rfl
    rw [e] at h
    simp (disch := omega) only [↓mi_66_94, ↓mi_66_96, ↓mi_66_98, ↓mi_66_167, ↓mi_66_168, na_le, if_pos]
    exact h
  | m + 1, k, l8, l9, hk => by
    rw [bk_2 (by omega), ap_u]
    exact bk_4 m (k + 1) _ _ (by omega)
def ms_bkI (I : ms_i) (v : Nat) (n a b c : Int32) : ms_i := ms_u (ms_u I 6 0 (mc_st v n a b c (I 6 0))) 7 0 (ms_plus 16 (ms_its 20 (va_cpy (mc_st v n a b c (I 6 0)) (I 7 0) 0 0 16)) (mc_st v n a b c (I 6 0)))
theorem sp_66 (hv : v < 2305843009213693951) : ms_G 66 0 [.ref (ms_ad 5 0), .long (lN v), .null, .int n, .int a, .int b, .int c, .null, .null, .null] [] (ms_Z q false I J) = some (.inl (some (.ref (ms_ad 7 0))), ms_Z q true (ms_bkI I v n a b c) J) := by
  rw [bk_1 hv]
  have h := bk_4 (q := q) (I := ms_u I 6 0 (mc_st v n a b c (I 6 0))) (J := J) (v := v) (n := n) (a := a) (b := b) (c := c) (f := va_cpy (mc_st v n a b c (I 6 0)) (I 7 0) 0 0 16) 20 0 .null .null rfl
  rw [ms_u_s] at h
  exact h
end Blk
