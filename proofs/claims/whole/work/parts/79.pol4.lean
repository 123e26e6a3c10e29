/-! POLY1305, THE CLASS'S: its methods; the tag. -/
theorem na_mod {x y : Nat} (h : x % 4294967296 = y % 4294967296) : nI x = nI y := by
  apply Int32.toBitVec_inj.1
  apply BitVec.eq_of_toNat_eq
  show (BitVec.ofNat 32 x).toNat = (BitVec.ofNat 32 y).toNat
  rw [BitVec.toNat_ofNat, BitVec.toNat_ofNat]
  exact h
theorem la_lo2 (n : Nat) : (nI n).toInt64 &&& lN 4294967295 = lN (n % 4294967296) := by
  rw [na_mod (x := n) (y := n % 4294967296) (by omega), la_lo (Nat.mod_lt _ (by decide))]
theorem la_loU (x : Int32) : x.toInt64 &&& lN 4294967295 = lN (mU x) := by
  have h := la_lo (mU_lt x)
  rw [nI_mU] at h
  exact h
theorem mU_nI2 (n : Nat) : mU (nI n) = n % 4294967296 := by
  rw [na_mod (x := n) (y := n % 4294967296) (by omega)]
  exact pk_tn (Nat.mod_lt _ (by decide))
theorem mU_nI {n : Nat} (h : n < 4294967296) : mU (nI n) = n := pk_tn h
def ms_pd (f : Nat → Int32) : Nat := mU (f 0) + mU (f 1) * 4294967296 + mU (f 2) * 18446744073709551616 + mU (f 3) * 79228162514264337593543950336
def ms_P130 : Nat := 1361129467683753853853498429727072845819
theorem mU2_lt (x y : Int32) : mU x * 4294967296 + mU y < 18446744073709551616 := by
  have h1 := mU_lt x
  have h2 := mU_lt y
  omega
section Pol4
variable {q : Nat × Nat} {w : Bool} {I : ms_i} {J : ms_j} {σ : ms_M}
theorem sp_108U {r : Nat} {h : Nat → Nat} (hJ : J r 0 = ms_mL h) (ho : ∀ i, i < 5 → mo_1 q.1 r 0 i = true) (x0 x1 x2 x3 : Int32) : ms_G 108 0 [.ref (ms_ad r 0), .int x0, .int x1, .int x2, .int x3, .null, .null, .null, .null] [] (ms_Z q false I J) = some (.inl none, ms_Z q true I (ms_u J r 0 (ms_mL (ms_al h (mU x1 * 4294967296 + mU x0) (mU x3 * 4294967296 + mU x2))))) := by
  have h := sp_108 (q := q) (I := I) (J := J) hJ ho (mU_lt x0) (mU_lt x1) (mU_lt x2) (mU_lt x3)
  rw [nI_mU, nI_mU, nI_mU, nI_mU] at h
  exact h
theorem sp_107 {h f : Nat → Nat} (hJ : J 10 0 = ms_mL h) (hF : J 9 0 = ms_mL f) (hn : ms_Nm h) (hf : ∀ i, i < 5 → f i < 67108864) (x0 x1 x2 x3 : Int32) : ∃ W, ms_G 107 0 [.ref (ms_ad 8 0), .int x0, .int x1, .int x2, .int x3] [] (ms_Z q false I J) = some (.inl none, ms_Z q true I (ms_u (ms_u J 11 0 W) 10 0 (ms_mL (ms_ab h f (mU x1 * 4294967296 + mU x0) (mU x3 * 4294967296 + mU x2))))) := by
  have hl := mU2_lt x1 x0
  have hh := mU2_lt x3 x2
  have h1 := sp_108U (q := q) (I := I) (J := J) hJ (fun i hi => o1_10 hi) x0 x1 x2 x3
  obtain ⟨lo, elo⟩ : ∃ lo, lo = mU x1 * 4294967296 + mU x0 := ⟨_, rfl⟩
  obtain ⟨hi, ehi⟩ : ∃ hi, hi = mU x3 * 4294967296 + mU x2 := ⟨_, rfl⟩
  rw [← elo] at hl h1 ⊢
  rw [← ehi] at hh h1 ⊢
  obtain ⟨W, h2⟩ := sp_109 (q := q) (I := I) (J := ms_u J 10 0 (ms_mL (ms_uN (ms_al h lo hi) 4 (ms_al h lo hi 4 + 16777216)))) (s := ms_uN (ms_al h lo hi) 4 (ms_al h lo hi 4 + 16777216)) (f := f) (ms_u_s _ _ _ _) (by rw [ms_u_r _ _ _ _ (by decide)]; exact hF)
  have h3 := sp_110 (q := q) (I := I) (J := ms_u (ms_u (ms_u J 10 0 (ms_mL (ms_uN (ms_al h lo hi) 4 (ms_al h lo hi 4 + 16777216)))) 11 0 W) 10 0 (ms_mL (ms_wk 5 (ms_uN (ms_al h lo hi) 4 (ms_al h lo hi 4 + 16777216)) f (ms_uN (ms_al h lo hi) 4 (ms_al h lo hi 4 + 16777216))))) (ms_u_s _ _ _ _) (wk_lt (ab_s hn hl hh) hf)
  refine ⟨W, ?_⟩
  simp (disch := omega) only [↓mi_107_0, ↓mi_107_1, ↓mi_107_4, ↓mi_107_5, ↓mi_107_6, ↓mi_107_7, ↓mi_107_9, ↓mi_107_12, ↓mi_107_13, ↓mi_107_16, ↓mi_107_17, ↓mi_107_18, ↓mi_107_19, ↓mi_107_22, ↓mi_107_23, ↓mi_107_24, ↓mi_107_25, ↓mi_107_28, ↓mi_107_29, ↓mi_107_32, cond_true, mz_clv, mz_cln, Bool.false_or, Bool.true_or, Bool.or_false, Bool.or_true, if_true, if_false, ite_self, h1, ms_u_s, ms_u_u, o1_10, mL_at, mL_upd, lN_add, h2, h3]
  have e : ms_u (ms_u (ms_u J 10 0 (ms_mL (ms_uN (ms_al h lo hi) 4 (ms_al h lo hi 4 + 16777216)))) 11 0 W) 10 0 (ms_mL (ms_ca (ms_wk 5 (ms_uN (ms_al h lo hi) 4 (ms_al h lo hi 4 + 16777216)) f (ms_uN (ms_al h lo hi) 4 (ms_al h lo hi 4 + 16777216))))) = ms_u (ms_u J 11 0 W) 10 0 (ms_mL (ms_ab h f lo hi)) := by
    funext r u
    unfold ms_u
    by_cases a1 : r = 10 ∧ u = 0
    · rw [if_pos a1, if_pos a1]
      rfl
    · by_cases a2 : r = 11 ∧ u = 0
      · simp only [if_neg a1, if_pos a2]
      · simp only [if_neg a1, if_neg a2]
  rw [e]
theorem sp_113 {h : Nat → Nat} (hJ : J 10 0 = ms_mL h) (hb : ∀ i, i < 5 → h i < 67108864) : ms_G 113 0 [.ref (ms_ad 8 0)] [] (ms_Z q false I J) = some (.inl (some (.int (ms_b (decide (1361129467683753853853498429727072845819 ≤ ms_v5 h))))), ms_Z q false I J) := by
  have b0 := hb 0 (by decide)
  have b1 := hb 1 (by decide)
  have b2 := hb 2 (by decide)
  have b3 := hb 3 (by decide)
  have b4 := hb 4 (by decide)
  have hB := fi_big hb
  simp (disch := omega) only [↓mi_113_0, ↓mi_113_1, ↓mi_113_4, ↓mi_113_5, ↓mi_113_6, ↓mi_113_9, ↓mi_113_10, ↓mi_113_13, ↓mi_113_14, ↓mi_113_17, ↓mi_113_18, ↓mi_113_19, ↓mi_113_22, ↓mi_113_23, ↓mi_113_26, ↓mi_113_27, ↓mi_113_30, ↓mi_113_31, ↓mi_113_32, ↓mi_113_35, ↓mi_113_36, ↓mi_113_39, ↓mi_113_40, ↓mi_113_43, ↓mi_113_44, ↓mi_113_45, ↓mi_113_48, ↓mi_113_49, ↓mi_113_52, ↓mi_113_53, ↓mi_113_56, ↓mi_113_57, ↓mi_113_58, ↓mi_113_61, ↓mi_113_62, ↓mi_113_65, ↓mi_113_66, ↓mi_113_69, ↓mi_113_70, ↓mi_113_70_1, ↓mi_113_70_b, cond_true, mz_clv, mz_cln, Bool.false_or, Bool.true_or, Bool.or_false, Bool.or_true, if_true, if_false, ite_self, o1_10, hJ, mL_at, lc_lt, lc_eq]
  by_cases hp : 1361129467683753853853498429727072845819 ≤ ms_v5 h
  · obtain ⟨k0, k1, k2, k3, k4⟩ := hB.mpr hp
    rw [if_neg (by omega), if_pos k1, if_pos k2, if_pos k3, if_pos k4, decide_eq_true hp]
    rfl
  · rw [decide_eq_false hp]
    by_cases k0 : h 0 < 67108859
    · rw [if_pos k0]
      rfl
    · rw [if_neg k0]
      by_cases k1 : h 1 = 67108863
      · rw [if_pos k1]
        by_cases k2 : h 2 = 67108863
        · rw [if_pos k2]
          by_cases k3 : h 3 = 67108863
          · rw [if_pos k3]
            by_cases k4 : h 4 = 67108863
            · exact absurd (hB.mp ⟨by omega, k1, k2, k3, k4⟩) hp
            · rw [if_neg k4]
              rfl
          · rw [if_neg k3]
            rfl
        · rw [if_neg k2]
          rfl
      · rw [if_neg k1]
        rfl
-- the words of the tag
def ms_cc (W P : Nat → Nat) : Nat → Nat
  | 0 => 0
  | k + 1 => (ms_cc W P k + (W k % 4294967296 + P k)) / 4294967296
def ms_tg (k : Nat) (W P : Nat → Nat) (g : Nat → Int32) : Nat → Int32 := fun i => if i < k then nI (ms_cc W P i + (W i % 4294967296 + P i)) else g i
theorem ms_tg_s (k : Nat) (W P : Nat → Nat) (g : Nat → Int32) : upd (ms_tg k W P g) k (nI (ms_cc W P k + (W k % 4294967296 + P k))) = ms_tg (k + 1) W P g := by
  funext i
  unfold ms_tg upd
  by_cases h : i = k
  · subst h
    simp
  · by_cases h2 : i < k
    · simp [h, h2, Nat.lt_succ_of_lt h2]
    · simp [h, h2, show ¬ i < k + 1 by omega]
theorem ms_cc_lt (W : Nat → Nat) {P : Nat → Nat} (hP : ∀ i, P i < 4294967296) : ∀ k, ms_cc W P k ≤ 2
  | 0 => by show 0 ≤ 2; decide
  | k + 1 => by
    have h1 := ms_cc_lt W hP k
    have h2 := hP k
    show (ms_cc W P k + (W k % 4294967296 + P k)) / 4294967296 ≤ 2
    omega
theorem fn_l {h : Nat → Nat} (hJ : J 10 0 = ms_mL h) (hb : ∀ i, i < 5 → h i < 67108864) {g : Nat → Int32} : ∀ m k, m + k = 4 → ms_G 112 32 [.ref (ms_ad 8 0), .long (lN (ms_cc (ms_sw1 h) (fun i => mU (I 12 0 i)) k)), .null, .int (nI k)] [] (ms_Z q true (ms_u I 13 0 (ms_tg k (ms_sw1 h) (fun i => mU (I 12 0 i)) g)) J) = some (.inl none, ms_Z q true (ms_u I 13 0 (ms_tg 4 (ms_sw1 h) (fun i => mU (I 12 0 i)) g)) J)
  | 0, k, hk => by
    have : k = 4 := by omega
    subst this
    simp (disch := omega) only [↓mi_112_32, ↓mi_112_33, ↓mi_112_34, ↓mi_112_81, na_le, if_pos]
  | m + 1, k, hk => by
    have h1 := ms_cc_lt (ms_sw1 h) (P := fun i => mU (I 12 0 i)) (fun i => mU_lt _) k
    have h2 := mU_lt (I 12 0 k)
    have e32 : (2 : Nat) ^ 32 = 4294967296 := rfl
    have h4 := fun (I : ms_i) => sp_114 (q := q) (I := I) hJ hb (i := k) (by omega)
    rw [mi_112_32]
    simp (disch := omega) only [↓mi_112_33, ↓mi_112_34, ↓mi_112_37, ↓mi_112_38, ↓mi_112_39, ↓mi_112_40, ↓mi_112_43, ↓mi_112_44, ↓mi_112_47, ↓mi_112_48, ↓mi_112_49, ↓mi_112_52, ↓mi_112_53, ↓mi_112_54, ↓mi_112_55, ↓mi_112_58, ↓mi_112_59, ↓mi_112_60, ↓mi_112_61, ↓mi_112_62, ↓mi_112_63, ↓mi_112_66, ↓mi_112_67, ↓mi_112_68, ↓mi_112_69, ↓mi_112_70, ↓mi_112_71, ↓mi_112_73, ↓mi_112_74, ↓mi_112_75, ↓mi_112_78, cond_true, mz_clv, mz_cln, Bool.false_or, Bool.true_or, Bool.or_false, Bool.or_true, if_true, if_false, ite_self, ms_u_s, ms_u_r, ms_u_i, ms_u_u, o0_12, o0_13, na_le, na_up, if_neg, h4, la_loU, mU_nI2, lN_add, lN_i, wb_shr, e32]
    have e := ms_tg_s k (ms_sw1 h) (fun i => mU (I 12 0 i)) g
    rw [e]
    exact fn_l hJ hb m (k + 1) (by omega)
theorem tg_arith {a0 a1 a2 a3 p0 p1 p2 p3 T : Nat} (h0 : a0 < 4294967296) (h1 : a1 < 4294967296) (h2 : a2 < 4294967296) (h3 : a3 < 4294967296) (g0 : p0 < 4294967296) (g1 : p1 < 4294967296) (g2 : p2 < 4294967296) (g3 : p3 < 4294967296) :
    ((a0 + p0) % 4294967296 = ((a0 + a1 * 4294967296 + a2 * 18446744073709551616 + a3 * 79228162514264337593543950336 + T * 340282366920938463463374607431768211456) + (p0 + p1 * 4294967296 + p2 * 18446744073709551616 + p3 * 79228162514264337593543950336)) % 4294967296) ∧
    (((a0 + p0) / 4294967296 + (a1 + p1)) % 4294967296 = ((a0 + a1 * 4294967296 + a2 * 18446744073709551616 + a3 * 79228162514264337593543950336 + T * 340282366920938463463374607431768211456) + (p0 + p1 * 4294967296 + p2 * 18446744073709551616 + p3 * 79228162514264337593543950336)) / 4294967296 % 4294967296) ∧
    ((((a0 + p0) / 4294967296 + (a1 + p1)) / 4294967296 + (a2 + p2)) % 4294967296 = ((a0 + a1 * 4294967296 + a2 * 18446744073709551616 + a3 * 79228162514264337593543950336 + T * 340282366920938463463374607431768211456) + (p0 + p1 * 4294967296 + p2 * 18446744073709551616 + p3 * 79228162514264337593543950336)) / 18446744073709551616 % 4294967296) ∧
    (((((a0 + p0) / 4294967296 + (a1 + p1)) / 4294967296 + (a2 + p2)) / 4294967296 + (a3 + p3)) % 4294967296 = ((a0 + a1 * 4294967296 + a2 * 18446744073709551616 + a3 * 79228162514264337593543950336 + T * 340282366920938463463374607431768211456) + (p0 + p1 * 4294967296 + p2 * 18446744073709551616 + p3 * 79228162514264337593543950336)) / 79228162514264337593543950336 % 4294967296) := by
  refine ⟨by omega, by omega, by omega, by omega⟩
/-- the tag of a value V and a pad S, word by word -/
def ms_tw (V S k : Nat) : Int32 := nI ((V + S) / 4294967296 ^ k)
theorem tg_words {h : Nat → Nat} (hb : ∀ i, i < 5 → h i < 67108864) (f : Nat → Int32) (g : Nat → Int32) : ∀ k, k < 4 → ms_tg 4 (ms_sw1 h) (fun i => mU (f i)) g k = ms_tw (ms_v5 h) (ms_pd f) k := by
  have b0 := hb 0 (by decide)
  have b1 := hb 1 (by decide)
  have b2 := hb 2 (by decide)
  have b3 := hb 3 (by decide)
  have b4 := hb 4 (by decide)
  have s0 : ms_sw1 h 0 = h 0 + h 1 * 67108864 := by simp [ms_sw1]
  have s1 : ms_sw1 h 1 = h 1 / 64 + h 2 * 1048576 := by simp [ms_sw1]
  have s2 : ms_sw1 h 2 = h 2 / 4096 + h 3 * 16384 := by simp [ms_sw1]
  have s3 : ms_sw1 h 3 = h 3 / 262144 + h 4 * 256 := by simp [ms_sw1]
  have hV : ms_v5 h = (ms_sw1 h 0 % 4294967296) + (ms_sw1 h 1 % 4294967296) * 4294967296 + (ms_sw1 h 2 % 4294967296) * 18446744073709551616 + (ms_sw1 h 3 % 4294967296) * 79228162514264337593543950336 + (h 4 / 16777216) * 340282366920938463463374607431768211456 := by
    rw [s0, s1, s2, s3]
    unfold ms_v5
    omega
  obtain ⟨t0, t1, t2, t3⟩ := tg_arith (T := h 4 / 16777216) (show ms_sw1 h 0 % 4294967296 < 4294967296 from Nat.mod_lt _ (by decide)) (show ms_sw1 h 1 % 4294967296 < 4294967296 from Nat.mod_lt _ (by decide)) (show ms_sw1 h 2 % 4294967296 < 4294967296 from Nat.mod_lt _ (by decide)) (show ms_sw1 h 3 % 4294967296 < 4294967296 from Nat.mod_lt _ (by decide)) (mU_lt (f 0)) (mU_lt (f 1)) (mU_lt (f 2)) (mU_lt (f 3))
  rw [← hV] at t0 t1 t2 t3
  intro k hk
  unfold ms_tw ms_tg
  rw [if_pos hk]
  apply na_mod
  match k, hk with
  | 0, _ =>
    simp only [ms_cc, Nat.zero_add, Nat.pow_zero, Nat.div_one]
    exact t0
  | 1, _ =>
    simp only [ms_cc, Nat.zero_add, Nat.pow_one]
    exact t1
  | 2, _ =>
    simp only [ms_cc, Nat.zero_add]
    exact t2
  | 3, _ =>
    simp only [ms_cc, Nat.zero_add]
    exact t3
theorem sp_112 {h : Nat → Nat} (hJ : J 10 0 = ms_mL h) (hn : ms_Nm h) : ∃ X T, ms_G 112 0 [.ref (ms_ad 8 0), .null, .null, .null] [] (ms_Z q false I J) = some (.inl none, ms_Z q true (ms_u I 13 0 T) (ms_u J 10 0 X)) ∧ ∀ k, k < 4 → T k = ms_tw (ms_v5 h % 1361129467683753853853498429727072845819) (ms_pd (I 12 0)) k := by
  have hb63 : ∀ i, i < 5 → h i < 9223372036854775808 := by
    obtain ⟨n0, n1, n2, n3, n4⟩ := hn
    intro i hi
    match i, hi with
    | 0, _ => omega
    | 1, _ => omega
    | 2, _ => omega
    | 3, _ => omega
    | 4, _ => omega
  obtain ⟨hc, hm⟩ := fi_ca hn
  have h1 := sp_110 (q := q) (I := I) hJ hb63
  have h2 := sp_113 (q := q) (I := I) (J := ms_u J 10 0 (ms_mL (ms_ca h))) (ms_u_s _ _ _ _) hc
  have h3 := fi_lt hc
  have e0 := ms_u_id I 13 0
  by_cases hp : 1361129467683753853853498429727072845819 ≤ ms_v5 (ms_ca h)
  · rw [decide_eq_true hp] at h2
    have hs := fi_sub hc hp
    have hb5 : ∀ i, i < 5 → ms_cu 5 (ms_uN (ms_ca h) 0 (ms_ca h 0 + 5)) i < 67108864 := fun i hi => by
      unfold ms_cu
      rw [if_pos hi]
      exact Nat.mod_lt _ (by decide)
    have h4 := sp_111 (q := q) (I := I) (J := ms_u J 10 0 (ms_mL (ms_uN (ms_ca h) 0 (ms_ca h 0 + 5)))) (ms_u_s _ _ _ _) (fun i hi => by
      have a1 := hc i hi
      have a0 := hc 0 (by decide)
      unfold ms_uN
      split <;> omega)
    have h5 := fn_l (q := q) (I := I) (J := ms_u J 10 0 (ms_mL (ms_cu 5 (ms_uN (ms_ca h) 0 (ms_ca h 0 + 5))))) (ms_u_s _ _ _ _) hb5 (g := I 13 0) 4 0 rfl
    have e1 : ms_tg 0 (ms_sw1 (ms_cu 5 (ms_uN (ms_ca h) 0 (ms_ca h 0 + 5)))) (fun i => mU (I 12 0 i)) (I 13 0) = I 13 0 := by
      funext i
      exact if_neg (Nat.not_lt_zero i)
    rw [e1, e0] at h5
    refine ⟨ms_mL (ms_cu 5 (ms_uN (ms_ca h) 0 (ms_ca h 0 + 5))), ms_tg 4 (ms_sw1 (ms_cu 5 (ms_uN (ms_ca h) 0 (ms_ca h 0 + 5)))) (fun i => mU (I 12 0 i)) (I 13 0), ?_, ?_⟩
    rotate_left
    · intro k hk
      have e9 : ms_v5 (ms_ca h) - 1361129467683753853853498429727072845819 = ms_v5 h % 1361129467683753853853498429727072845819 := by omega
      rw [tg_words hb5 (I 12 0) (I 13 0) k hk, hs, e9]
    · simp (disch := omega) only [↓mi_112_0, ↓mi_112_1, ↓mi_112_4, ↓mi_112_5, ↓mi_112_8, ↓mi_112_11, ↓mi_112_12, ↓mi_112_15, ↓mi_112_16, ↓mi_112_17, ↓mi_112_18, ↓mi_112_21, ↓mi_112_22, ↓mi_112_23, ↓mi_112_24, ↓mi_112_27, ↓mi_112_28, ↓mi_112_29, ↓mi_112_30, ↓mi_112_31, cond_true, mz_clv, mz_cln, Bool.false_or, Bool.true_or, Bool.or_false, Bool.or_true, if_true, if_false, ite_self, h1, h2, ms_u_s, ms_u_u, o1_10, mL_at, mL_upd, lN_add, h4, if_neg (show ¬ ms_b true = nI 0 by decide)]
      exact h5
  · rw [decide_eq_false hp] at h2
    have h5 := fn_l (q := q) (I := I) (J := ms_u J 10 0 (ms_mL (ms_ca h))) (ms_u_s _ _ _ _) hc (g := I 13 0) 4 0 rfl
    have e1 : ms_tg 0 (ms_sw1 (ms_ca h)) (fun i => mU (I 12 0 i)) (I 13 0) = I 13 0 := by
      funext i
      exact if_neg (Nat.not_lt_zero i)
    rw [e1, e0] at h5
    refine ⟨ms_mL (ms_ca h), ms_tg 4 (ms_sw1 (ms_ca h)) (fun i => mU (I 12 0 i)) (I 13 0), ?_, ?_⟩
    rotate_left
    · intro k hk
      have e9 : ms_v5 (ms_ca h) = ms_v5 h % 1361129467683753853853498429727072845819 := by omega
      rw [tg_words hc (I 12 0) (I 13 0) k hk, e9]
    · simp (disch := omega) only [↓mi_112_0, ↓mi_112_1, ↓mi_112_4, ↓mi_112_5, ↓mi_112_8, ↓mi_112_11, ↓mi_112_12, ↓mi_112_15, ↓mi_112_16, ↓mi_112_17, ↓mi_112_18, ↓mi_112_21, ↓mi_112_22, ↓mi_112_23, ↓mi_112_24, ↓mi_112_27, ↓mi_112_28, ↓mi_112_29, ↓mi_112_30, ↓mi_112_31, cond_true, mz_clv, mz_cln, Bool.false_or, Bool.true_or, Bool.or_false, Bool.or_true, if_true, if_false, ite_self, h1, h2, ms_u_s, ms_u_u, o1_10, mL_at, mL_upd, lN_add, if_pos (show ms_b false = nI 0 from rfl)]
      exact h5
end Pol4
