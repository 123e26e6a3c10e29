/-! THE MODEL'S TAG. -/
theorem na_rem3 (a d : Nat) : nI a - nI (a / d * d) = nI (a % d) := by
  have h := na_rem2 a d
  rw [pk_mul] at h
  exact h
theorem tg_words2 {V : Nat} (f g : Nat → Int32) : ∀ k, k < 4 → ms_tg 4 (fun i => V / 2 ^ (32 * i)) (fun i => mU (f i)) g k = ms_tw V (ms_pd f) k := by
  have hV : V = (V / 2 ^ (32 * 0) % 4294967296) + (V / 2 ^ (32 * 1) % 4294967296) * 4294967296 + (V / 2 ^ (32 * 2) % 4294967296) * 18446744073709551616 + (V / 2 ^ (32 * 3) % 4294967296) * 79228162514264337593543950336 + (V / 340282366920938463463374607431768211456) * 340282366920938463463374607431768211456 := by omega
  obtain ⟨t0, t1, t2, t3⟩ := tg_arith (T := V / 340282366920938463463374607431768211456) (show V / 2 ^ (32 * 0) % 4294967296 < 4294967296 from Nat.mod_lt _ (by decide)) (show V / 2 ^ (32 * 1) % 4294967296 < 4294967296 from Nat.mod_lt _ (by decide)) (show V / 2 ^ (32 * 2) % 4294967296 < 4294967296 from Nat.mod_lt _ (by decide)) (show V / 2 ^ (32 * 3) % 4294967296 < 4294967296 from Nat.mod_lt _ (by decide)) (mU_lt (f 0)) (mU_lt (f 1)) (mU_lt (f 2)) (mU_lt (f 3))
  rw [← hV] at t0 t1 t2 t3
  intro k hk
  unfold ms_tw ms_tg
  rw [if_pos hk]
  apply na_mod
  match k, hk with
  | 0, _ =>
    simp only [ms_cc, Nat.zero_add, Nat.pow_zero, Nat.div_one]
    exact t0
  | 1, _ =>
    simp only [ms_cc, Nat.zero_add, Nat.pow_one]
    exact t1
  | 2, _ =>
    simp only [ms_cc, Nat.zero_add]
    exact t2
  | 3, _ =>
    simp only [ms_cc, Nat.zero_add]
    exact t3
section MSeal
variable {q : Nat × Nat} {w : Bool} {I : ms_i} {J : ms_j} {σ : ms_M} {v : Nat} {a b c0 c1 c2 c3 : Int32} {l9 l10 l11 l12 l13 l14 l15 l16 l17 : Value}
theorem se_a {f : Nat → Int32} : ∀ m k, m + k = 4 → ms_G 31 13 [.ref (ms_ad 40 0), .long (lN v), .null, .int a, .int b, .int c0, .int c1, .int c2, .int c3, .int (nI k), l10, l11, l12, l13, l14, l15, l16, l17] [] (ms_Z q true (ms_u I 63 0 (ms_cp k (I 59 0) f)) J) = ms_G 31 39 [.ref (ms_ad 40 0), .long (lN v), .null, .int a, .int b, .int c0, .int c1, .int c2, .int c3, .int (nI 4), l10, l11, l12, l13, l14, l15, l16, l17] [] (ms_Z q true (ms_u I 63 0 (ms_cp 4 (I 59 0) f)) J)
  | 0, k, hk => by
    have : k = 4 := by omega
    subst this
    simp (disch := omega) only [↓mi_31_13, ↓mi_31_15, ↓mi_31_16, na_le, if_pos]
  | m + 1, k, hk => by
    rw [mi_31_13]
    simp (disch := omega) only [↓mi_31_15, ↓mi_31_16, ↓mi_31_19, ↓mi_31_20, ↓mi_31_23, ↓mi_31_25, ↓mi_31_26, ↓mi_31_29, ↓mi_31_31, ↓mi_31_32, ↓mi_31_33, ↓mi_31_36, cond_true, mz_clv, mz_cln, Bool.false_or, Bool.true_or, Bool.or_false, Bool.or_true, if_true, if_false, ite_self, ms_u_s, ms_u_r, ms_u_i, ms_u_u, o0_59, o0_63, na_le, na_up, if_neg, ms_cp_s]
    exact se_a m (k + 1) (by omega)
theorem se_b : ms_G 31 39 [.ref (ms_ad 40 0), .long (lN v), .null, .int a, .int b, .int c0, .int c1, .int c2, .int c3, .int (nI 4), l10, l11, l12, l13, l14, l15, l16, l17] [] (ms_Z q true I J) = ms_G 31 77 [.ref (ms_ad 40 0), .long (lN v), .null, .int a, .int b, .int c0, .int c1, .int c2, .int c3, .int (nI 4), l10, l11, l12, l13, l14, l15, l16, l17] [] (ms_Z q true (ms_u I 63 0 (upd (upd (upd (upd (I 63 0) 0 (I 63 0 0 &&& nI 268435455)) 1 (I 63 0 1 &&& nI 268435452)) 2 (I 63 0 2 &&& nI 268435452)) 3 (I 63 0 3 &&& nI 268435452))) J) := by
  have e1 : ∀ (k : Nat) (I : ms_i), 1 ≤ k → k < 4 → ms_G 31 53 [.ref (ms_ad 40 0), .long (lN v), .null, .int a, .int b, .int c0, .int c1, .int c2, .int c3, .int (nI k), l10, l11, l12, l13, l14, l15, l16, l17] [] (ms_Z q true I J) = ms_G 31 53 [.ref (ms_ad 40 0), .long (lN v), .null, .int a, .int b, .int c0, .int c1, .int c2, .int c3, .int (nI (k + 1)), l10, l11, l12, l13, l14, l15, l16, l17] [] (ms_Z q true (ms_u I 63 0 (upd (I 63 0) k (I 63 0 k &&& nI 268435452))) J) := by
    intro k I h1 h2
    rw [mi_31_53]
    simp (disch := omega) only [↓mi_31_55, ↓mi_31_56, ↓mi_31_59, ↓mi_31_60, ↓mi_31_63, ↓mi_31_65, ↓mi_31_66, ↓mi_31_67, ↓mi_31_69, ↓mi_31_70, ↓mi_31_71, ↓mi_31_74, cond_true, mz_clv, mz_cln, Bool.false_or, Bool.true_or, Bool.or_false, Bool.or_true, if_true, if_false, ite_self, o0_63, na_le, na_up, if_neg]
  simp (disch := omega) only [↓mi_31_39, ↓mi_31_40, ↓mi_31_43, ↓mi_31_44, ↓mi_31_45, ↓mi_31_46, ↓mi_31_48, ↓mi_31_49, ↓mi_31_50, ↓mi_31_51, cond_true, mz_clv, mz_cln, Bool.false_or, Bool.true_or, Bool.or_false, Bool.or_true, if_true, if_false, ite_self, o0_63]
  rw [e1 1 _ (by decide) (by decide), e1 2 _ (by decide) (by decide), e1 3 _ (by decide) (by decide)]
  simp (disch := omega) only [↓mi_31_53, ↓mi_31_55, ↓mi_31_56, na_le, if_pos, ms_u_s, ms_u_u]
  have f1 : ∀ (f : Nat → Int32) (k : Nat) (x : Int32) (i : Nat), i ≠ k → upd f k x i = f i := fun f k x i h => if_neg h
  rw [f1 _ _ _ 1 (by decide), f1 _ _ _ 2 (by decide), f1 _ _ _ 2 (by decide), f1 _ _ _ 3 (by decide), f1 _ _ _ 3 (by decide), f1 _ _ _ 3 (by decide)]
def mp_tc (k : Nat) (B f : Nat → Int32) : Nat → Int32 := fun i => if i < k then B (4 + i) else f i
theorem mp_tc_s (k : Nat) (B f : Nat → Int32) : upd (mp_tc k B f) k (B (4 + k)) = mp_tc (k + 1) B f := by
  funext i
  unfold mp_tc upd
  by_cases h : i = k
  · subst h
    simp
  · by_cases h2 : i < k
    · simp [h, h2, Nat.lt_succ_of_lt h2]
    · simp [h, h2, show ¬ i < k + 1 by omega]
theorem se_c {f : Nat → Int32} : ∀ m k, m + k = 4 → ms_G 31 92 [.ref (ms_ad 40 0), .long (lN v), .null, .int a, .int b, .int c0, .int c1, .int c2, .int c3, .int (nI k), l10, l11, l12, l13, l14, l15, l16, l17] [] (ms_Z q true (ms_u I 64 0 (mp_tc k (I 59 0) f)) J) = ms_G 31 120 [.ref (ms_ad 40 0), .long (lN v), .null, .int a, .int b, .int c0, .int c1, .int c2, .int c3, .int (nI 4), l10, l11, l12, l13, l14, l15, l16, l17] [] (ms_Z q true (ms_u I 64 0 (mp_tc 4 (I 59 0) f)) J)
  | 0, k, hk => by
    have : k = 4 := by omega
    subst this
    simp (disch := omega) only [↓mi_31_92, ↓mi_31_94, ↓mi_31_95, na_le, if_pos]
  | m + 1, k, hk => by
    rw [mi_31_92]
    simp (disch := omega) only [↓mi_31_94, ↓mi_31_95, ↓mi_31_98, ↓mi_31_99, ↓mi_31_102, ↓mi_31_104, ↓mi_31_105, ↓mi_31_108, ↓mi_31_109, ↓mi_31_111, ↓mi_31_112, ↓mi_31_113, ↓mi_31_114, ↓mi_31_117, cond_true, mz_clv, mz_cln, Bool.false_or, Bool.true_or, Bool.or_false, Bool.or_true, if_true, if_false, ite_self, ms_u_s, ms_u_r, ms_u_i, ms_u_u, o0_59, o0_64, na_le, na_up, if_neg, mp_tc_s]
    exact se_c m (k + 1) (by omega)
theorem se_d {g : Nat → Nat} : ∀ m k, m + k = 10 → ms_G 31 123 [.ref (ms_ad 40 0), .long (lN v), .null, .int a, .int b, .int c0, .int c1, .int c2, .int c3, .int (nI k), l10, l11, l12, l13, l14, l15, l16, l17] [] (ms_Z q true I (ms_u J 60 0 (ms_mL (mp_ze k g)))) = ms_G 31 144 [.ref (ms_ad 40 0), .long (lN v), .null, .int a, .int b, .int c0, .int c1, .int c2, .int c3, .int (nI 10), l10, l11, l12, l13, l14, l15, l16, l17] [] (ms_Z q true I (ms_u J 60 0 (ms_mL (mp_ze 10 g))))
  | 0, k, hk => by
    have : k = 10 := by omega
    subst this
    simp (disch := omega) only [↓mi_31_123, ↓mi_31_125, ↓mi_31_127, na_le, if_pos]
  | m + 1, k, hk => by
    rw [mi_31_123]
    simp (disch := omega) only [↓mi_31_125, ↓mi_31_127, ↓mi_31_130, ↓mi_31_131, ↓mi_31_134, ↓mi_31_136, ↓mi_31_137, ↓mi_31_138, ↓mi_31_141, cond_true, mz_clv, mz_cln, Bool.false_or, Bool.true_or, Bool.or_false, Bool.or_true, if_true, if_false, ite_self, ms_u_s, ms_u_r, ms_u_i, ms_u_u, o1_60, na_le, na_up, if_neg, mL_upd, mp_ze_s]
    exact se_d m (k + 1) (by omega)
theorem se_h {h : Nat → Nat} (hJ : J 60 0 = ms_mL h) (hb : ∀ i, i < 10 → h i < 1099511627776) : ∀ m k, m + k = 10 → ms_G 31 225 [.ref (ms_ad 40 0), .long (lN v), .null, .int a, .int b, .int c0, .int c1, .int c2, .int c3, .long (lN (mp_o3 h 5 k)), .null, .int (nI k), l12, l13, l14, l15, l16, l17] [] (ms_Z q true I J) = ms_G 31 253 [.ref (ms_ad 40 0), .long (lN v), .null, .int a, .int b, .int c0, .int c1, .int c2, .int c3, .long (lN (mp_o3 h 5 10)), .null, .int (nI 10), l12, l13, l14, l15, l16, l17] [] (ms_Z q true I J)
  | 0, k, hk => by
    have : k = 10 := by omega
    subst this
    simp (disch := omega) only [↓mi_31_225, ↓mi_31_227, ↓mi_31_229, na_le, if_pos]
  | m + 1, k, hk => by
    have h1 := mp_o3_lt (c := 5) (B := 5) (Nat.le_refl _) (by decide) hb k (by omega)
    have h2 := hb k (by omega)
    have e13 : (2 : Nat) ^ 13 = 8192 := rfl
    rw [mi_31_225]
    simp (disch := omega) only [↓mi_31_227, ↓mi_31_229, ↓mi_31_232, ↓mi_31_234, ↓mi_31_235, ↓mi_31_238, ↓mi_31_240, ↓mi_31_241, ↓mi_31_242, ↓mi_31_244, ↓mi_31_245, ↓mi_31_247, ↓mi_31_250, cond_true, mz_clv, mz_cln, Bool.false_or, Bool.true_or, Bool.or_false, Bool.or_true, if_true, if_false, ite_self, o1_60, na_le, na_up, if_neg, hJ, mL_at, lN_add, la_shr, e13]
    rw [show (mp_o3 h 5 k + h k) / 8192 = mp_o3 h 5 (k + 1) by show _ = (h k + mp_o3 h 5 k) / 8192; rw [Nat.add_comm]]
    exact se_h hJ hb m (k + 1) (by omega)
theorem se_w {h : Nat → Nat} {V k i : Nat} (hJ : J 60 0 = ms_mL h) (hd : ∀ j, j < 10 → h j = V / 2 ^ (13 * j) % 2 ^ 13) (hk : k < 4) (hi : i < 32) : ms_G 31 290 [.ref (ms_ad 40 0), .long (lN v), .null, .int a, .int b, .int c0, .int c1, .int c2, .int c3, l9, l10, l11, l12, .int (nI k), .long (lN (V / 2 ^ (32 * k) % 2 ^ i)), .null, .int (nI i), l17] [] (ms_Z q true I J) = ms_G 31 290 [.ref (ms_ad 40 0), .long (lN v), .null, .int a, .int b, .int c0, .int c1, .int c2, .int c3, l9, l10, l11, l12, .int (nI k), .long (lN (V / 2 ^ (32 * k) % 2 ^ (i + 1))), .null, .int (nI (i + 1)), .int (nI (32 * k + i))] [] (ms_Z q true I J) := by
  have hj : (32 * k + i) / 13 < 10 := by omega
  have hm : (32 * k + i) % 13 < 13 := Nat.mod_lt _ (by decide)
  have hl : h ((32 * k + i) / 13) < 8192 := by
    rw [hd _ hj]
    exact Nat.mod_lt _ (by decide)
  have hdv : h ((32 * k + i) / 13) / 2 ^ ((32 * k + i) % 13) ≤ h ((32 * k + i) / 13) := Nat.div_le_self _ _
  have hbit : h ((32 * k + i) / 13) / 2 ^ ((32 * k + i) % 13) % 2 = V / 2 ^ (32 * k + i) % 2 := by
    have := md_bitl (b := 13) V ((32 * k + i) / 13) ((32 * k + i) % 13) hm
    rw [← hd _ hj, show 13 * ((32 * k + i) / 13) + (32 * k + i) % 13 = 32 * k + i by omega] at this
    exact this
  have e1 : V / 2 ^ (32 * k + i) % 2 = V / 2 ^ (32 * k) / 2 ^ i % 2 := by rw [Nat.pow_add, Nat.div_div_eq_div_mul]
  have hv : V / 2 ^ (32 * k) % 2 ^ i < 2 ^ i := Nat.mod_lt _ (Nat.two_pow_pos i)
  have hp : (2 : Nat) ^ i ≤ 2 ^ 32 := Nat.pow_le_pow_right (by decide) (by omega)
  have hb2 : V / 2 ^ (32 * k + i) % 2 * 2 ^ i ≤ 1 * 2 ^ 32 := Nat.mul_le_mul (by omega) hp
  have hor : lN (V / 2 ^ (32 * k) % 2 ^ i) ||| lN (V / 2 ^ (32 * k + i) % 2 * 2 ^ i) = lN (V / 2 ^ (32 * k) % 2 ^ (i + 1)) := by
    rw [g_or' (k := i) rfl hv (by omega), md_lowb, e1]
  rw [mi_31_290]
  simp (disch := omega) only [↓mi_31_292, ↓mi_31_294, ↓mi_31_297, ↓mi_31_299, ↓mi_31_301, ↓mi_31_302, ↓mi_31_304, ↓mi_31_305, ↓mi_31_307, ↓mi_31_309, ↓mi_31_310, ↓mi_31_313, ↓mi_31_315, ↓mi_31_317, ↓mi_31_318, ↓mi_31_319, ↓mi_31_321, ↓mi_31_323, ↓mi_31_324, ↓mi_31_325, ↓mi_31_326, ↓mi_31_327, ↓mi_31_329, ↓mi_31_330, ↓mi_31_331, ↓mi_31_333, ↓mi_31_336, cond_true, mz_clv, mz_cln, Bool.false_or, Bool.true_or, Bool.or_false, Bool.or_true, if_true, if_false, ite_self, o1_60, na_le, na_up, pk_mul, if_neg, pk_div, na_rem3, hJ, mL_at, la_shr, la_a1, hbit, wb_shl, hor]
theorem se_v {h : Nat → Nat} {V k : Nat} (hJ : J 60 0 = ms_mL h) (hd : ∀ j, j < 10 → h j = V / 2 ^ (13 * j) % 2 ^ 13) (hk : k < 4) : ∀ m i l17, m + i = 32 → ∃ l17', ms_G 31 290 [.ref (ms_ad 40 0), .long (lN v), .null, .int a, .int b, .int c0, .int c1, .int c2, .int c3, l9, l10, l11, l12, .int (nI k), .long (lN (V / 2 ^ (32 * k) % 2 ^ i)), .null, .int (nI i), l17] [] (ms_Z q true I J) = ms_G 31 339 [.ref (ms_ad 40 0), .long (lN v), .null, .int a, .int b, .int c0, .int c1, .int c2, .int c3, l9, l10, l11, l12, .int (nI k), .long (lN (V / 2 ^ (32 * k) % 2 ^ 32)), .null, .int (nI 32), l17'] [] (ms_Z q true I J)
  | 0, i, l17, hi => by
    have : i = 32 := by omega
    subst this
    refine ⟨l17, ?_⟩
    simp (disch := omega) only [↓mi_31_290, ↓mi_31_292, ↓mi_31_294, na_le, if_pos]
  | m + 1, i, l17, hi => by
    rw [se_w hJ hd hk (by omega)]
    exact se_v hJ hd hk m (i + 1) _ (by omega)
theorem se_t {h : Nat → Nat} {V : Nat} {g : Nat → Int32} (hJ : J 60 0 = ms_mL h) (hd : ∀ j, j < 10 → h j = V / 2 ^ (13 * j) % 2 ^ 13) : ∀ m k l14 l16 l17, m + k = 4 → ms_G 31 278 [.ref (ms_ad 40 0), .long (lN v), .null, .int a, .int b, .int c0, .int c1, .int c2, .int c3, l9, .null, .long (lN (ms_cc (fun i => V / 2 ^ (32 * i)) (fun i => mU (g i)) k)), .null, .int (nI k), l14, .null, l16, l17] [] (ms_Z q true (ms_u I 64 0 (ms_tg k (fun i => V / 2 ^ (32 * i)) (fun i => mU (g i)) g)) J) = some (.inl none, ms_Z q true (ms_u I 64 0 (ms_tg 4 (fun i => V / 2 ^ (32 * i)) (fun i => mU (g i)) g)) J)
  | 0, k, l14, l16, l17, hk => by
    have : k = 4 := by omega
    subst this
    simp (disch := omega) only [↓mi_31_278, ↓mi_31_280, ↓mi_31_281, ↓mi_31_382, na_le, if_pos]
  | m + 1, k, l14, l16, l17, hk => by
    have h1 := ms_cc_lt (fun i => V / 2 ^ (32 * i)) (P := fun i => mU (g i)) (fun i => mU_lt _) k
    have h2 := mU_lt (g k)
    have h3 : V / 2 ^ (32 * k) % 4294967296 < 4294967296 := Nat.mod_lt _ (by decide)
    have e32 : (2 : Nat) ^ 32 = 4294967296 := rfl
    obtain ⟨l17', hv⟩ := se_v (q := q) (I := ms_u I 64 0 (ms_tg k (fun i => V / 2 ^ (32 * i)) (fun i => mU (g i)) g)) (J := J) (v := v) (a := a) (b := b) (c0 := c0) (c1 := c1) (c2 := c2) (c3 := c3) (l9 := l9) (l10 := .null) (l11 := .long (lN (ms_cc (fun i => V / 2 ^ (32 * i)) (fun i => mU (g i)) k))) (l12 := .null) hJ hd (k := k) (by omega) 32 0 l17 rfl
    rw [Nat.pow_zero, Nat.mod_one, e32] at hv
    have ek : ms_tg k (fun i => V / 2 ^ (32 * i)) (fun i => mU (g i)) g k = g k := if_neg (Nat.lt_irrefl k)
    have es := ms_tg_s k (fun i => V / 2 ^ (32 * i)) (fun i => mU (g i)) g
    rw [mi_31_278]
    simp (disch := omega) only [↓mi_31_280, ↓mi_31_281, ↓mi_31_284, ↓mi_31_285, ↓mi_31_287, ↓mi_31_288, na_le, if_neg]
    rw [hv]
    simp (disch := omega) only [↓mi_31_339, ↓mi_31_341, ↓mi_31_343, ↓mi_31_344, ↓mi_31_347, ↓mi_31_349, ↓mi_31_350, ↓mi_31_351, ↓mi_31_354, ↓mi_31_355, ↓mi_31_356, ↓mi_31_357, ↓mi_31_359, ↓mi_31_360, ↓mi_31_363, ↓mi_31_365, ↓mi_31_367, ↓mi_31_368, ↓mi_31_369, ↓mi_31_371, ↓mi_31_373, ↓mi_31_374, ↓mi_31_376, ↓mi_31_379, cond_true, mz_clv, mz_cln, Bool.false_or, Bool.true_or, Bool.or_false, Bool.or_true, if_true, if_false, ite_self, ms_u_s, ms_u_r, ms_u_i, ms_u_u, o0_64, ek, na_up, la_loU, lN_add, lN_i, la_shr, e32]
    rw [es]
    exact se_t hJ hd m (k + 1) _ _ _ (by omega)
-- the end of the sum: below 2^130 - 5
theorem fm_st {h : Nat → Nat} (hn : mp_Nm h) : ∀ i, i < 10 → mp_st h i < 8192 := by
  intro i hi
  by_cases h1 : 1 ≤ i
  · exact st_hi h h1 hi
  · have : i = 0 := by omega
    subst this
    have c := c3_vs 10 h 0
    have c0 := c3_lt h 0 (i := 0) (by decide)
    have hv : ms_vs 10 h < 1361129467683753853853498429727072845832 := by
      have t := vs_lt 9 (fun n => h (n + 1)) (fun n hn2 => hn.2 (n + 1) (by omega) (by omega))
      have t2 : ms_vs 9 (fun n => h (n + 1)) < 166153499473114484112975882535043072 := t
      have h0 := hn.1
      show h 0 + 8192 * ms_vs 9 (fun n => h (n + 1)) < _
      omega
    have e : ms_vs 10 (mp_c3 10 h 0) = mp_c3 10 h 0 0 + 8192 * ms_vs 9 (fun n => mp_c3 10 h 0 (n + 1)) := rfl
    rw [e] at c
    have c' : mp_c3 10 h 0 0 + 8192 * ms_vs 9 (fun n => mp_c3 10 h 0 (n + 1)) + 1361129467683753853853498429727072845824 * mp_o3 h 0 10 = ms_vs 10 h + 0 := c
    show mp_c3 10 h 0 0 + 5 * mp_o3 h 0 10 < 8192
    generalize mp_o3 h 0 10 = o at *
    generalize ms_vs 9 (fun n => mp_c3 10 h 0 (n + 1)) = X at *
    generalize ms_vs 10 h = V at *
    generalize mp_c3 10 h 0 0 = Y at *
    clear e c
    have ho : o ≤ 1 := by omega
    omega
theorem fm_end {h : Nat → Nat} (hb : ∀ i, i < 10 → h i < 8192) : (∀ i, i < 10 → ms_uN h 0 (h 0 + 5 * mp_o3 h 5 10) i < 1099511627776) ∧ ms_vs 10 (mp_c3 10 (ms_uN h 0 (h 0 + 5 * mp_o3 h 5 10)) 0) = ms_vs 10 h % 1361129467683753853853498429727072845819 := by
  have c := c3_vs 10 h 5
  have l1 := vs_lt 10 (mp_c3 10 h 5) (fun n hn => c3_lt h 5 hn)
  have l2 := vs_lt 10 h hb
  have d := c3_vs 10 (ms_uN h 0 (h 0 + 5 * mp_o3 h 5 10)) 0
  have l3 := vs_lt 10 (mp_c3 10 (ms_uN h 0 (h 0 + 5 * mp_o3 h 5 10)) 0) (fun n hn => c3_lt _ 0 hn)
  have e : ms_vs 10 (ms_uN h 0 (h 0 + 5 * mp_o3 h 5 10)) = ms_vs 10 h + 5 * mp_o3 h 5 10 := by
    show (h 0 + 5 * mp_o3 h 5 10) + 8192 * ms_vs 9 (fun n => h (n + 1)) = h 0 + 8192 * ms_vs 9 (fun n => h (n + 1)) + 5 * mp_o3 h 5 10
    omega
  rw [e] at d
  have p10 : (8192 : Nat) ^ 10 = 1361129467683753853853498429727072845824 := by decide
  rw [p10] at c l1 l2 d l3
  have ho : mp_o3 h 5 10 ≤ 1 := by
    generalize mp_o3 h 5 10 = o at *
    generalize ms_vs 10 (mp_c3 10 h 5) = X at *
    generalize ms_vs 10 h = V at *
    omega
  refine ⟨?_, ?_⟩
  · intro i hi
    have := hb i hi
    have := hb 0 (by decide)
    unfold ms_uN
    split <;> omega
  · generalize ms_vs 10 (mp_c3 10 (ms_uN h 0 (h 0 + 5 * mp_o3 h 5 10)) 0) = R at *
    generalize mp_o3 (ms_uN h 0 (h 0 + 5 * mp_o3 h 5 10)) 0 10 = o2 at *
    generalize mp_o3 h 5 10 = o at *
    generalize ms_vs 10 (mp_c3 10 h 5) = X at *
    generalize ms_vs 10 h = V at *
    clear e
    rcases (show o = 0 ∨ o = 1 by omega) with rfl | rfl
    · omega
    · omega
theorem sp_31 (hv : v < 2305843009213693951) : ∃ I' J', ms_G 31 0 [.ref (ms_ad 40 0), .long (lN v), .null, .int a, .int b, .int c0, .int c1, .int c2, .int c3, .null, .null, .null, .null, .null, .null, .null, .null, .null] [] (ms_Z q false I J) = some (.inl none, ms_Z q true I' J') ∧ (∀ k, k < 4 → I' 64 0 k = ms_tag v a b c0 c1 c2 c3 k) ∧ (∀ r u, r ≠ 58 → r ≠ 59 → r ≠ 63 → r ≠ 64 → I' r u = I r u) ∧ (∀ r u, r ≠ 60 → r ≠ 61 → r ≠ 62 → r ≠ 65 → J' r u = J r u) := by
  obtain ⟨I1, eI1⟩ : ∃ I1, I1 = ms_mxI I v (nI 0) a b (nI 1) := ⟨_, rfl⟩
  have hB : ∀ i, i < 16 → I1 59 0 i = ms_blk v (nI 0) a b (nI 1) i := fun i hi => by rw [eI1, mx_word hi]
  have h1 := sp_26 (q := q) (I := I) (J := J) (v := v) (n := nI 0) (a := a) (b := b) (c := nI 1) hv
  rw [← eI1] at h1
  -- the key
  have h2 := se_a (q := q) (I := I1) (J := J) (v := v) (a := a) (b := b) (c0 := c0) (c1 := c1) (c2 := c2) (c3 := c3) (l10 := .null) (l11 := .null) (l12 := .null) (l13 := .null) (l14 := .null) (l15 := .null) (l16 := .null) (l17 := .null) (f := I1 63 0) 4 0 rfl
  rw [ms_cp_0, ms_u_id] at h2
  have h3 := se_b (q := q) (I := ms_u I1 63 0 (ms_cp 4 (I1 59 0) (I1 63 0))) (J := J) (v := v) (a := a) (b := b) (c0 := c0) (c1 := c1) (c2 := c2) (c3 := c3) (l10 := .null) (l11 := .null) (l12 := .null) (l13 := .null) (l14 := .null) (l15 := .null) (l16 := .null) (l17 := .null)
  rw [ms_u_s, ms_u_u] at h3
  obtain ⟨K, eK⟩ : ∃ K, K = upd (upd (upd (upd (ms_cp 4 (I1 59 0) (I1 63 0)) 0 (ms_cp 4 (I1 59 0) (I1 63 0) 0 &&& nI 268435455)) 1 (ms_cp 4 (I1 59 0) (I1 63 0) 1 &&& nI 268435452)) 2 (ms_cp 4 (I1 59 0) (I1 63 0) 2 &&& nI 268435452)) 3 (ms_cp 4 (I1 59 0) (I1 63 0) 3 &&& nI 268435452) := ⟨_, rfl⟩
  rw [← eK] at h3
  have hK : ms_n128 K 0 = ms_rk (ms_blk v (nI 0) a b (nI 1)) := by
    have k0 : K 0 = ms_blk v (nI 0) a b (nI 1) 0 &&& nI 268435455 := by rw [eK, ← hB 0 (by decide)]; rfl
    have k1 : K 1 = ms_blk v (nI 0) a b (nI 1) 1 &&& nI 268435452 := by rw [eK, ← hB 1 (by decide)]; rfl
    have k2 : K 2 = ms_blk v (nI 0) a b (nI 1) 2 &&& nI 268435452 := by rw [eK, ← hB 2 (by decide)]; rfl
    have k3 : K 3 = ms_blk v (nI 0) a b (nI 1) 3 &&& nI 268435452 := by rw [eK, ← hB 3 (by decide)]; rfl
    unfold ms_n128 ms_rk
    rw [k0, k1, k2, k3]
    omega
  obtain ⟨I2, eI2⟩ : ∃ I2, I2 = ms_u I1 63 0 K := ⟨_, rfl⟩
  rw [← eI2] at h3
  obtain ⟨g61, e61⟩ := mL_of (J 61 0)
  have h4 := sp_28 (q := q) (I := I2) (J := J) (r := 61) (e := 0) (by decide) (fun i hi => o1_61 hi) e61
  rw [show I2 63 0 = K by rw [eI2, ms_u_s], hK] at h4
  obtain ⟨R, eR⟩ : ∃ R, R = ms_rk (ms_blk v (nI 0) a b (nI 1)) := ⟨_, rfl⟩
  have hR : R < 2 ^ 129 := by rw [eR, ← hK]; exact (nn_top K (by decide)).2
  rw [← eR] at h4
  obtain ⟨J1, eJ1⟩ : ∃ J1, J1 = ms_u J 61 0 (ms_mL (ms_sp 10 R g61)) := ⟨_, rfl⟩
  rw [← eJ1] at h4
  have hf : ∀ i, i < 10 → ms_sp 10 R g61 i < 8192 := fun i hi => by
    unfold ms_sp
    rw [if_pos hi]
    exact Nat.mod_lt _ (by decide)
  have hfv : ms_vs 10 (ms_sp 10 R g61) = R := by
    rw [vs_congr 10 (g := ms_sp 10 R g61) (h := fun i => R / 2 ^ (13 * i) % 2 ^ 13) (fun n hn => if_pos hn), vs_of, Nat.mod_eq_of_lt (Nat.lt_trans hR (by decide))]
  -- the pad
  have h5 := se_c (q := q) (I := I2) (J := J1) (v := v) (a := a) (b := b) (c0 := c0) (c1 := c1) (c2 := c2) (c3 := c3) (l10 := .null) (l11 := .null) (l12 := .null) (l13 := .null) (l14 := .null) (l15 := .null) (l16 := .null) (l17 := .null) (f := I2 64 0) 4 0 rfl
  rw [show mp_tc 0 (I2 59 0) (I2 64 0) = I2 64 0 from funext fun i => if_neg (Nat.not_lt_zero i), ms_u_id] at h5
  obtain ⟨I3, eI3⟩ : ∃ I3, I3 = ms_u I2 64 0 (mp_tc 4 (I2 59 0) (I2 64 0)) := ⟨_, rfl⟩
  rw [← eI3] at h5
  -- the sum
  obtain ⟨g60, e60⟩ := mL_of (J 60 0)
  have h6 := se_d (q := q) (I := I3) (J := J1) (v := v) (a := a) (b := b) (c0 := c0) (c1 := c1) (c2 := c2) (c3 := c3) (l10 := .null) (l11 := .null) (l12 := .null) (l13 := .null) (l14 := .null) (l15 := .null) (l16 := .null) (l17 := .null) (g := g60) 10 0 rfl
  have b1 : ms_u J1 60 0 (ms_mL g60) = J1 := by
    have := ms_u_id J1 60 0
    rw [eJ1, ms_u_r _ _ _ _ (by decide), e60, ← eJ1] at this
    exact this
  rw [show mp_ze 0 g60 = g60 from funext fun i => if_neg (Nat.not_lt_zero i), b1] at h6
  obtain ⟨J2, eJ2⟩ : ∃ J2, J2 = ms_u J1 60 0 (ms_mL (mp_ze 10 g60)) := ⟨_, rfl⟩
  rw [← eJ2] at h6
  have hn0 : mp_Nm (mp_ze 10 g60) := ⟨by rw [show mp_ze 10 g60 0 = 0 from rfl]; decide, fun i h1 h2 => by
    unfold mp_ze
    rw [if_pos h2]
    decide⟩
  have hv0 : ms_vs 10 (mp_ze 10 g60) = 0 := by rw [vs_congr 10 (g := mp_ze 10 g60) (h := fun _ => 0) (fun n hn => if_pos hn), vs_zero]
  have f61 : J2 61 0 = ms_mL (ms_sp 10 R g61) := by rw [eJ2, ms_u_r _ _ _ _ (by decide), eJ1, ms_u_s]
  -- two blocks
  obtain ⟨I4, eI4⟩ : ∃ I4, I4 = ms_u I3 63 0 (upd (upd (upd (upd (I3 63 0) 0 c0) 1 c1) 2 c2) 3 c3) := ⟨_, rfl⟩
  obtain ⟨J3, H1, h7, e7, n7, v7, fr7⟩ := sp_29 (q := q) (I := I4) (J := J2) (h := mp_ze 10 g60) (f := ms_sp 10 R g61) (by rw [eJ2, ms_u_s]) f61 hn0 hf
  obtain ⟨I5, eI5⟩ : ∃ I5, I5 = ms_u I4 63 0 (upd (upd (upd (upd (I4 63 0) 0 (nI 0)) 1 (nI 0)) 2 (nI 16)) 3 (nI 0)) := ⟨_, rfl⟩
  obtain ⟨J4, H2, h8, e8, n8, v8, fr8⟩ := sp_29 (q := q) (I := I5) (J := J3) (h := H1) (f := ms_sp 10 R g61) e7 (by rw [fr7 61 0 (by decide) (by decide) (by decide)]; exact f61) n7 hf
  have h9 := sp_30 (q := q) (I := I5) (J := J4) e8 (fun i hi => by
    by_cases h0 : i = 0
    · have := n8.1
      rw [h0]
      omega
    · have := n8.2 i (by omega) hi
      omega)
  have hs := fm_st n8
  have vs9 := st_vs H2
  obtain ⟨H3, eH3⟩ : ∃ H3, H3 = mp_st H2 := ⟨_, rfl⟩
  rw [← eH3] at h9 hs vs9
  obtain ⟨J5, eJ5⟩ : ∃ J5, J5 = ms_u J4 60 0 (ms_mL H3) := ⟨_, rfl⟩
  rw [← eJ5] at h9
  have f60 : J5 60 0 = ms_mL H3 := by rw [eJ5, ms_u_s]
  have h10 := se_h (q := q) (I := I5) (J := J5) (v := v) (a := a) (b := b) (c0 := c0) (c1 := c1) (c2 := c2) (c3 := c3) (l12 := .null) (l13 := .null) (l14 := .null) (l15 := .null) (l16 := .null) (l17 := .null) f60 (fun i hi => by have := hs i hi; omega) 10 0 rfl
  obtain ⟨hE1, hE2⟩ := fm_end hs
  have h11 := sp_32 (q := q) (I := I5) (J := ms_u J5 60 0 (ms_mL (ms_uN H3 0 (H3 0 + 5 * mp_o3 H3 5 10)))) (ms_u_s _ _ _ _) hE1
  obtain ⟨H4, eH4⟩ : ∃ H4, H4 = mp_c3 10 (ms_uN H3 0 (H3 0 + 5 * mp_o3 H3 5 10)) 0 := ⟨_, rfl⟩
  have hH4 : ∀ i, i < 10 → H4 i < 8192 := fun i hi => by rw [eH4]; exact c3_lt _ 0 hi
  rw [← eH4] at h11 hE2
  obtain ⟨V, eV⟩ : ∃ V, V = ms_vs 10 H4 := ⟨_, rfl⟩
  have hd : ∀ j, j < 10 → H4 j = V / 2 ^ (13 * j) % 2 ^ 13 := fun j hj => by
    rw [Nat.pow_mul, eV]
    exact (vs_digit j 10 H4 hH4 hj).symm
  have h12 := se_t (q := q) (I := I5) (J := ms_u (ms_u J5 60 0 (ms_mL (ms_uN H3 0 (H3 0 + 5 * mp_o3 H3 5 10)))) 60 0 (ms_mL H4)) (v := v) (a := a) (b := b) (c0 := c0) (c1 := c1) (c2 := c2) (c3 := c3) (l9 := .long (lN (mp_o3 H3 5 10))) (V := V) (g := I5 64 0) (ms_u_s _ _ _ _) hd 4 0 .null .null .null rfl
  rw [show ms_tg 0 (fun i => V / 2 ^ (32 * i)) (fun i => mU (I5 64 0 i)) (I5 64 0) = I5 64 0 from funext fun i => if_neg (Nat.not_lt_zero i), ms_u_id] at h12
  refine ⟨ms_u I5 64 0 (ms_tg 4 (fun i => V / 2 ^ (32 * i)) (fun i => mU (I5 64 0 i)) (I5 64 0)), ms_u (ms_u J5 60 0 (ms_mL (ms_uN H3 0 (H3 0 + 5 * mp_o3 H3 5 10)))) 60 0 (ms_mL H4), ?_, ?_, ?_, ?_⟩
  · simp only [↓mi_31_0, ↓mi_31_1, ↓mi_31_2, ↓mi_31_3, ↓mi_31_5, ↓mi_31_6, ↓mi_31_7, ↓mi_31_10, ↓mi_31_11, cond_true, mz_clv, mz_cln, Bool.false_or, Bool.true_or, Bool.or_false, Bool.or_true, if_true, if_false, ite_self, h1]
    rw [h2, h3]
    simp only [↓mi_31_77, ↓mi_31_78, ↓mi_31_81, ↓mi_31_82, ↓mi_31_85, ↓mi_31_86, ↓mi_31_89, ↓mi_31_90, cond_true, mz_clv, mz_cln, Bool.false_or, Bool.true_or, Bool.or_false, Bool.or_true, if_true, if_false, ite_self, h4]
    rw [h5]
    simp only [↓mi_31_120, ↓mi_31_121]
    rw [h6]
    simp (disch := omega) only [↓mi_31_144, ↓mi_31_145, ↓mi_31_148, ↓mi_31_149, ↓mi_31_151, ↓mi_31_152, ↓mi_31_153, ↓mi_31_156, ↓mi_31_157, ↓mi_31_159, ↓mi_31_160, ↓mi_31_161, ↓mi_31_164, ↓mi_31_165, ↓mi_31_167, ↓mi_31_168, ↓mi_31_169, ↓mi_31_172, ↓mi_31_173, ↓mi_31_175, ↓mi_31_176, cond_true, mz_clv, mz_cln, Bool.false_or, Bool.true_or, Bool.or_false, Bool.or_true, if_true, if_false, ite_self, ms_u_s, ms_u_u, o0_63]
    rw [← eI4]
    simp only [mi_31_177, h7, cond_true, mz_clv, mz_cln, Bool.false_or, Bool.true_or, Bool.or_false, Bool.or_true, if_true, if_false, ite_self]
    simp (disch := omega) only [↓mi_31_180, ↓mi_31_181, ↓mi_31_184, ↓mi_31_185, ↓mi_31_186, ↓mi_31_187, ↓mi_31_188, ↓mi_31_191, ↓mi_31_192, ↓mi_31_193, ↓mi_31_194, ↓mi_31_195, ↓mi_31_198, ↓mi_31_199, ↓mi_31_201, ↓mi_31_202, ↓mi_31_203, ↓mi_31_206, ↓mi_31_207, ↓mi_31_208, ↓mi_31_209, cond_true, mz_clv, mz_cln, Bool.false_or, Bool.true_or, Bool.or_false, Bool.or_true, if_true, if_false, ite_self, ms_u_s, ms_u_u, o0_63]
    rw [← eI5]
    simp only [mi_31_210, h8, ↓mi_31_213, ↓mi_31_214, ↓mi_31_217, ↓mi_31_220, ↓mi_31_222, ↓mi_31_223, h9, cond_true, mz_clv, mz_cln, Bool.false_or, Bool.true_or, Bool.or_false, Bool.or_true, if_true, if_false, ite_self]
    refine h10.trans ?_
    simp (disch := omega) only [↓mi_31_253, ↓mi_31_254, ↓mi_31_257, ↓mi_31_258, ↓mi_31_259, ↓mi_31_260, ↓mi_31_263, ↓mi_31_265, ↓mi_31_266, ↓mi_31_267, ↓mi_31_268, ↓mi_31_269, ↓mi_31_272, ↓mi_31_273, ↓mi_31_275, ↓mi_31_276, cond_true, mz_clv, mz_cln, Bool.false_or, Bool.true_or, Bool.or_false, Bool.or_true, if_true, if_false, ite_self, ms_u_s, ms_u_u, o1_60, f60, mL_at, mL_upd, lN_mul, lN_add, h11]
    simp only [ms_u_u] at h12
    exact h12
  · intro k hk
    rw [ms_u_s, tg_words2 (I5 64 0) (I5 64 0) k hk]
    have ep : ms_pd (I5 64 0) = ms_pd (fun i => ms_blk v (nI 0) a b (nI 1) (4 + i)) := by
      have e4 : ∀ i, i < 4 → I5 64 0 i = ms_blk v (nI 0) a b (nI 1) (4 + i) := by
        intro i hi
        rw [eI5, ms_u_r _ _ _ _ (by decide), eI4, ms_u_r _ _ _ _ (by decide), eI3, ms_u_s]
        unfold mp_tc
        rw [if_pos hi, eI2, ms_u_r _ _ _ _ (by decide), hB _ (by omega)]
      unfold ms_pd
      rw [e4 0 (by decide), e4 1 (by decide), e4 2 (by decide), e4 3 (by decide)]
    have m2 : ms_n128 (I5 63 0) 1 = 340282366920938463758522512611121037312 := by
      have z0 : I5 63 0 0 = nI 0 := by rw [eI5, ms_u_s]; rfl
      have z1 : I5 63 0 1 = nI 0 := by rw [eI5, ms_u_s]; rfl
      have z2 : I5 63 0 2 = nI 16 := by rw [eI5, ms_u_s]; rfl
      have z3 : I5 63 0 3 = nI 0 := by rw [eI5, ms_u_s]; rfl
      have e0 : mU (nI 0) = 0 := by decide
      have e16 : mU (nI 16) = 16 := by decide
      unfold ms_n128
      rw [z0, z1, z2, z3, e0, e16]
    have m1 : ms_n128 (I4 63 0) 1 = ms_m1 c0 c1 c2 c3 := by
      have z0 : I4 63 0 0 = c0 := by rw [eI4, ms_u_s]; rfl
      have z1 : I4 63 0 1 = c1 := by rw [eI4, ms_u_s]; rfl
      have z2 : I4 63 0 2 = c2 := by rw [eI4, ms_u_s]; rfl
      have z3 : I4 63 0 3 = c3 := by rw [eI4, ms_u_s]; rfl
      unfold ms_n128 ms_m1
      rw [z0, z1, z2, z3]
    rw [m1, hv0, hfv, Nat.zero_add] at v7
    rw [m2, hfv] at v8
    have hVV : V = ms_vs 10 H2 % 1361129467683753853853498429727072845819 := by
      rw [eV, hE2, vs9, Nat.add_mul_mod_self_left]
    rw [ep, hVV, v8, md_h _ _ v7, eR]
    rfl
  · intro r u k58 k59 k63 k64
    rw [ms_u_r _ _ _ _ k64, eI5, ms_u_r _ _ _ _ k63, eI4, ms_u_r _ _ _ _ k63, eI3, ms_u_r _ _ _ _ k64, eI2, ms_u_r _ _ _ _ k63, eI1, mx_else k58 k59]
  · intro r u k60 k61 k62 k65
    rw [ms_u_r _ _ _ _ k60, ms_u_r _ _ _ _ k60, eJ5, ms_u_r _ _ _ _ k60, fr8 r u k60 k62 k65, fr7 r u k60 k62 k65, eJ2, ms_u_r _ _ _ _ k60, eJ1, ms_u_r _ _ _ _ k61]
end MSeal
