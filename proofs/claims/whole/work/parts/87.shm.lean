/-! SHARES: the model's; the class's two rows of them; agreed numbers. -/
def ms_cf (seed wh u k : Nat) : Nat := ms_num (ms_blk seed (nI 0) (nI (2 + wh)) (nI u) (nI 0) (2 * (k - 1))) (ms_blk seed (nI 0) (nI (2 + wh)) (nI u) (nI 0) (2 * (k - 1) + 1))
theorem sv_3 (u : Nat) : ms_sv 3 u = u := rfl
section Shm
variable {q : Nat × Nat} {w : Bool} {I : ms_i} {J : ms_j} {σ : ms_M}
theorem sm_l {u wh v seed a t : Nat} (hu : u < 8) (hw : wh < 2) (hv : v < 8) (ht : t ≤ 8) (hs : seed < 2305843009213693951) : ∀ m k w I l13 l14, 1 ≤ k → m + k = t → I 40 0 2 = nI t → ∃ I', ms_G 34 43 [.ref (ms_ad 40 0), .int (nI u), .int (nI wh), .int (nI v), .long (lN seed), .null, .long (lN ((a + ms_S (ms_cf seed wh u) (v + 1) (k - 1)) % 2305843009213693951)), .null, .long (lN (v + 1)), .null, .long (lN ((v + 1) ^ (k - 1) % 2305843009213693951)), .null, .int (nI k), l13, l14] [] (ms_Z q w I J) = some (.inl (some (.long (lN (ms_sh a (ms_cf seed wh u) (v + 1) t)))), ms_Z q (w || decide (0 < m)) I' J) ∧ ∀ r u, r ≠ 58 → r ≠ 59 → I' r u = I r u
  | 0, k, w, I, l13, l14, hk, hm, hT => by
    have : k = t := by omega
    subst this
    refine ⟨I, ?_, fun _ _ _ _ => rfl⟩
    simp (disch := omega) only [↓mi_34_43, ↓mi_34_45, ↓mi_34_46, ↓mi_34_49, ↓mi_34_118, ↓mi_34_120, cond_true, mz_clv, mz_cln, Bool.false_or, Bool.true_or, Bool.or_false, Bool.or_true, if_true, if_false, ite_self, hT, na_le, if_pos, Nat.lt_irrefl, decide_false]
    rfl
  | m + 1, k, w, I, l13, l14, hk, hm, hT => by
    obtain ⟨I1, eI1⟩ : ∃ I1, I1 = ms_mxI I seed (nI 0) (nI (2 + wh)) (nI u) (nI 0) := ⟨_, rfl⟩
    obtain ⟨I2, eI2⟩ : ∃ I2, I2 = ms_mxI I1 seed (nI 0) (nI (2 + wh)) (nI u) (nI 0) := ⟨_, rfl⟩
    have hT2 : I2 40 0 2 = nI t := by rw [eI2, mx_else (by decide) (by decide), eI1, mx_else (by decide) (by decide)]; exact hT
    have hfr : ∀ r u, r ≠ 58 → r ≠ 59 → I2 r u = I r u := fun r u h1 h2 => by rw [eI2, mx_else h1 h2, eI1, mx_else h1 h2]
    obtain ⟨I', ih, hf⟩ := sm_l (a := a) hu hw hv ht hs m (k + 1) true I2 (.long (lN (ms_cf seed wh u k))) .null (by omega) (by omega) hT2
    refine ⟨I', ?_, fun r u h1 h2 => by rw [hf r u h1 h2, hfr r u h1 h2]⟩
    have w1 := sp_27 (q := q) (I := I) (J := J) (v := seed) (a := nI (2 + wh)) (b := nI u) (k := 2 * k - 2) hs (by omega)
    have w2 := sp_27 (q := q) (I := I1) (J := J) (v := seed) (a := nI (2 + wh)) (b := nI u) (k := 2 * k - 1) hs (by omega)
    rw [show (2 * k - 2) / 16 = 0 by omega, show (2 * k - 2) % 16 = 2 * (k - 1) by omega, ← eI1] at w1
    rw [show (2 * k - 1) / 16 = 0 by omega, show (2 * k - 1) % 16 = 2 * (k - 1) + 1 by omega, ← eI2] at w2
    have hc : ms_num (ms_blk seed (nI 0) (nI (2 + wh)) (nI u) (nI 0) (2 * (k - 1))) (ms_blk seed (nI 0) (nI (2 + wh)) (nI u) (nI 0) (2 * (k - 1) + 1)) = ms_cf seed wh u k := rfl
    have hcl : ms_cf seed wh u k < 2305843009213693951 := ms_num_lt _ _
    have hS : (a + ms_S (ms_cf seed wh u) (v + 1) (k - 1)) % 2305843009213693951 < 2305843009213693951 := Nat.mod_lt _ (by decide)
    have hA : (v + 1) ^ (k - 1) % 2305843009213693951 < 2305843009213693951 := Nat.mod_lt _ (by decide)
    have hA2 : (v + 1) ^ k % 2305843009213693951 < 2305843009213693951 := Nat.mod_lt _ (by decide)
    have hA3 : ms_cf seed wh u k * ((v + 1) ^ k % 2305843009213693951) % 2305843009213693951 < 2305843009213693951 := Nat.mod_lt _ (by decide)
    have eA : (v + 1) ^ (k - 1) % 2305843009213693951 * (v + 1) % 2305843009213693951 = (v + 1) ^ k % 2305843009213693951 := by
      rw [Nat.mod_mul_mod, ← Nat.pow_succ, show (k - 1).succ = k by omega]
    have eS : ((a + ms_S (ms_cf seed wh u) (v + 1) (k - 1)) % 2305843009213693951 + ms_cf seed wh u k * ((v + 1) ^ k % 2305843009213693951) % 2305843009213693951) % 2305843009213693951 = (a + ms_S (ms_cf seed wh u) (v + 1) k) % 2305843009213693951 := by
      have e1 : ms_S (ms_cf seed wh u) (v + 1) k = ms_S (ms_cf seed wh u) (v + 1) (k - 1) + ms_cf seed wh u k * (v + 1) ^ k := by
        have := show ms_S (ms_cf seed wh u) (v + 1) ((k - 1) + 1) = ms_S (ms_cf seed wh u) (v + 1) (k - 1) + ms_cf seed wh u ((k - 1) + 1) * (v + 1) ^ ((k - 1) + 1) from rfl
        rw [show k - 1 + 1 = k by omega] at this
        exact this
      rw [e1, Nat.mul_mod_mod, ← Nat.add_mod, Nat.add_assoc]
    rw [mi_34_43]
    simp (disch := omega) only [↓mi_34_45, ↓mi_34_46, ↓mi_34_49, ↓mi_34_52, ↓mi_34_54, ↓mi_34_56, ↓mi_34_59, ↓mi_34_61, ↓mi_34_62, ↓mi_34_64, ↓mi_34_65, ↓mi_34_66, ↓mi_34_67, ↓mi_34_68, ↓mi_34_69, ↓mi_34_71, ↓mi_34_72, ↓mi_34_73, ↓mi_34_74, ↓mi_34_77, ↓mi_34_78, ↓mi_34_80, ↓mi_34_81, ↓mi_34_82, ↓mi_34_83, ↓mi_34_84, ↓mi_34_85, ↓mi_34_87, ↓mi_34_88, ↓mi_34_89, ↓mi_34_90, ↓mi_34_93, ↓mi_34_96, ↓mi_34_98, ↓mi_34_100, ↓mi_34_102, ↓mi_34_104, ↓mi_34_107, ↓mi_34_110, ↓mi_34_112, ↓mi_34_115, cond_true, mz_clv, mz_cln, Bool.false_or, Bool.true_or, Bool.or_false, Bool.or_true, if_true, if_false, ite_self, hT, na_le, if_neg, na_up, pk_mul, pk_sub, sp_21, eA, w1, w2, sp_23, hc, sp_20, eS]
    refine ih.trans ?_
    simp
theorem sp_34 {u wh v seed a t : Nat} (hu : u < 8) (hw : wh < 2) (hv : v < 8) (ht : t ≤ 8) (h2 : 2 ≤ t) (hs : seed < 2305843009213693951) (ha : a < 2305843009213693951) (hT : I 40 0 2 = nI t) (hS : J 41 0 (3 * u + 2) = lN seed) (hA : (if wh = 0 then J 41 0 (3 * u) else J 41 0 (3 * u + 2)) = lN a) : ∃ I', ms_G 34 0 [.ref (ms_ad 40 0), .int (nI u), .int (nI wh), .int (nI v), .null, .null, .null, .null, .null, .null, .null, .null, .null, .null, .null] [] (ms_Z q false I J) = some (.inl (some (.long (lN (ms_sh a (ms_cf seed wh u) (v + 1) t)))), ms_Z q true I' J) ∧ ∀ r u, r ≠ 58 → r ≠ 59 → I' r u = I r u := by
  obtain ⟨I', h, hf⟩ := sm_l (q := q) (J := J) (a := a) hu hw hv ht hs (t - 1) 1 false I .null .null (Nat.le_refl _) (by omega) hT
  refine ⟨I', ?_, hf⟩
  have hl : (nI v).toInt64 = lN v := na_l (by omega)
  have e1 : (a + ms_S (ms_cf seed wh u) (v + 1) (1 - 1)) % 2305843009213693951 = a := by
    show (a + 0) % _ = a
    rw [Nat.add_zero, Nat.mod_eq_of_lt ha]
  have e2 : (v + 1) ^ (1 - 1) % 2305843009213693951 = 1 := by rw [Nat.sub_self, Nat.pow_zero]
  rw [e1, e2, show decide (0 < t - 1) = true from decide_eq_true (by omega)] at h
  by_cases h0 : wh = 0
  · subst h0
    rw [if_pos rfl] at hA
    simp (disch := omega) only [↓mi_34_0, ↓mi_34_1, ↓mi_34_4, ↓mi_34_5, ↓mi_34_6, ↓mi_34_7, ↓mi_34_8, ↓mi_34_9, ↓mi_34_10, ↓mi_34_12, ↓mi_34_13, ↓mi_34_16, ↓mi_34_17, ↓mi_34_20, ↓mi_34_21, ↓mi_34_22, ↓mi_34_23, ↓mi_34_24, ↓mi_34_27, ↓mi_34_29, ↓mi_34_31, ↓mi_34_32, ↓mi_34_33, ↓mi_34_34, ↓mi_34_35, ↓mi_34_37, ↓mi_34_38, ↓mi_34_40, ↓mi_34_41, cond_true, mz_clv, mz_cln, Bool.false_or, Bool.true_or, Bool.or_false, Bool.or_true, if_true, if_false, ite_self, o1_41, na_up, pk_mul, hS, hA, hl, lN_add, if_pos]
    exact h
  · have h1 : wh = 1 := by omega
    subst h1
    rw [if_neg (by decide)] at hA
    have : lN seed = lN a := hS.symm.trans hA
    simp (disch := omega) only [↓mi_34_0, ↓mi_34_1, ↓mi_34_4, ↓mi_34_5, ↓mi_34_6, ↓mi_34_7, ↓mi_34_8, ↓mi_34_9, ↓mi_34_10, ↓mi_34_12, ↓mi_34_13, ↓mi_34_16, ↓mi_34_17, ↓mi_34_20, ↓mi_34_21, ↓mi_34_22, ↓mi_34_23, ↓mi_34_24, ↓mi_34_27, ↓mi_34_29, ↓mi_34_31, ↓mi_34_32, ↓mi_34_33, ↓mi_34_34, ↓mi_34_35, ↓mi_34_37, ↓mi_34_38, ↓mi_34_40, ↓mi_34_41, cond_true, mz_clv, mz_cln, Bool.false_or, Bool.true_or, Bool.or_false, Bool.or_true, if_true, if_false, ite_self, o1_41, na_up, pk_mul, hS, hl, lN_add, na_eq, if_neg]
    rw [this] at h ⊢
    exact h
theorem sp_33 {s : Nat} (x y : Int32) (hs : s < 2305843009213693951) : ms_G 33 0 [.ref (ms_ad 40 0), .int x, .int y, .long (lN s), .null] [] (ms_Z q false I J) = some (.inl (some (.long (lN (ms_pw (ms_num x y) s)))), ms_Z q false I J) := by
  have h1 := ms_num_lt x y
  simp (disch := omega) only [↓mi_33_0, ↓mi_33_1, ↓mi_33_2, ↓mi_33_5, ↓mi_33_6, ↓mi_33_9, cond_true, mz_clv, mz_cln, Bool.false_or, Bool.true_or, Bool.or_false, Bool.or_true, if_true, if_false, ite_self, sp_23, sp_22w]
theorem sp_104 {u v k s : Nat} (hu : u < 8) (hv : v < 8) (hk : k < 2) (hs : s < 2305843009213693951) (hS : J 32 u k = lN s) : ms_G 104 0 [.ref (ms_ad 31 u), .int (nI v), .int (nI k)] [] (ms_Z q false I J) = some (.inl (some (.long (lN (ms_pw (ms_num (I 37 u (1 + 4 * v + 2 * k)) (I 37 u (1 + 4 * v + 2 * k + 1))) s)))), ms_Z q false I J) := by
  have h1 := ms_num_lt (I 37 u (1 + 4 * v + 2 * k)) (I 37 u (1 + 4 * v + 2 * k + 1))
  have h2 := sp_85 (q := q) (I := I) (J := J) (r := 37) (u := u) (k := 1 + 4 * v + 2 * k) (o0_37 hu (by omega)) (o0_37 hu (by omega))
  simp (disch := omega) only [↓mi_104_0, ↓mi_104_1, ↓mi_104_4, ↓mi_104_5, ↓mi_104_6, ↓mi_104_7, ↓mi_104_8, ↓mi_104_9, ↓mi_104_10, ↓mi_104_11, ↓mi_104_12, ↓mi_104_13, ↓mi_104_16, ↓mi_104_17, ↓mi_104_20, ↓mi_104_21, ↓mi_104_22, ↓mi_104_25, cond_true, mz_clv, mz_cln, Bool.false_or, Bool.true_or, Bool.or_false, Bool.or_true, if_true, if_false, ite_self, o1_32, na_up, pk_mul, h2, hS, sp_91w]
def ms_rw (k : Nat) (g : Nat → Nat) (f : Nat → Int64) : Nat → Int64 := fun i => if i < k then lN (g i) else f i
theorem ms_rw_s (k : Nat) (g : Nat → Nat) (f : Nat → Int64) : vp_updL (ms_rw k g f) k (lN (g k)) = ms_rw (k + 1) g f := by
  funext i
  unfold ms_rw vp_updL
  by_cases h : i = k
  · subst h
    simp
  · by_cases h2 : i < k
    · simp [h, h2, Nat.lt_succ_of_lt h2]
    · simp [h, h2, show ¬ i < k + 1 by omega]
theorem ms_rw_0 (g : Nat → Nat) (f : Nat → Int64) : ms_rw 0 g f = f := by
  funext i
  exact if_neg (Nat.not_lt_zero i)
theorem mk_1 {u t a : Nat} (hu : u < 8) (ht : t ≤ 8) (h1 : 1 ≤ t) (ha : a < 2305843009213693951) (hA : J 32 u 0 = lN a) (c : Nat → Nat) (hc : ∀ k, 1 ≤ k → k < 8 → c k = ms_num (I 7 0 (2 * (k - 1))) (I 7 0 (2 * (k - 1) + 1))) {f : Nat → Int64} : ∀ m k, m + k = 8 → ms_G 99 20 [.ref (ms_ad 31 u), .ref (ms_ad 4 0), .int (nI t), .ref (ms_ad 7 0), .int (nI k)] [] (ms_Z q true I (ms_u J 35 u (ms_rw k (fun v => ms_sh a c (v + 1) t) f))) = ms_G 99 53 [.ref (ms_ad 31 u), .ref (ms_ad 4 0), .int (nI t), .ref (ms_ad 7 0), .int (nI 8)] [] (ms_Z q true I (ms_u J 35 u (ms_rw 8 (fun v => ms_sh a c (v + 1) t) f)))
  | 0, k, hk => by
    have : k = 8 := by omega
    subst this
    simp (disch := omega) only [↓mi_99_20, ↓mi_99_22, ↓mi_99_24, na_le, if_pos]
  | m + 1, k, hk => by
    have hs := fun (J : ms_j) => sp_131 (q := q) (I := I) (J := J) (v := k) (t := t) (a := a) (by omega) ht h1 ha c hc
    have es := ms_rw_s k (fun v => ms_sh a c (v + 1) t) f
    rw [mi_99_20]
    simp (disch := omega) only [↓mi_99_22, ↓mi_99_24, ↓mi_99_27, ↓mi_99_28, ↓mi_99_31, ↓mi_99_33, ↓mi_99_34, ↓mi_99_37, ↓mi_99_38, ↓mi_99_39, ↓mi_99_40, ↓mi_99_41, ↓mi_99_43, ↓mi_99_46, ↓mi_99_47, ↓mi_99_50, cond_true, mz_clv, mz_cln, Bool.false_or, Bool.true_or, Bool.or_false, Bool.or_true, if_true, if_false, ite_self, ms_u_s, ms_u_r, ms_u_i, ms_u_u, o1_32, o1_35, na_le, na_up, if_neg, hA, hs]
    rw [es]
    exact mk_1 hu ht h1 ha hA c hc m (k + 1) (by omega)
theorem mk_2 {u t a : Nat} (hu : u < 8) (ht : t ≤ 8) (h1 : 1 ≤ t) (ha : a < 2305843009213693951) (hA : J 32 u 2 = lN a) (c : Nat → Nat) (hc : ∀ k, 1 ≤ k → k < 8 → c k = ms_num (I 7 0 (2 * (k - 1))) (I 7 0 (2 * (k - 1) + 1))) {f : Nat → Int64} : ∀ m k, m + k = 8 → ms_G 99 73 [.ref (ms_ad 31 u), .ref (ms_ad 4 0), .int (nI t), .ref (ms_ad 7 0), .int (nI k)] [] (ms_Z q true I (ms_u J 34 u (ms_rw k (fun v => ms_sh a c (v + 1) t) f))) = some (.inl none, ms_Z q true I (ms_u J 34 u (ms_rw 8 (fun v => ms_sh a c (v + 1) t) f)))
  | 0, k, hk => by
    have : k = 8 := by omega
    subst this
    simp (disch := omega) only [↓mi_99_73, ↓mi_99_75, ↓mi_99_77, ↓mi_99_106, na_le, if_pos]
  | m + 1, k, hk => by
    have hs := fun (J : ms_j) => sp_131 (q := q) (I := I) (J := J) (v := k) (t := t) (a := a) (by omega) ht h1 ha c hc
    have es := ms_rw_s k (fun v => ms_sh a c (v + 1) t) f
    rw [mi_99_73]
    simp (disch := omega) only [↓mi_99_75, ↓mi_99_77, ↓mi_99_80, ↓mi_99_81, ↓mi_99_84, ↓mi_99_86, ↓mi_99_87, ↓mi_99_90, ↓mi_99_91, ↓mi_99_92, ↓mi_99_93, ↓mi_99_94, ↓mi_99_96, ↓mi_99_99, ↓mi_99_100, ↓mi_99_103, cond_true, mz_clv, mz_cln, Bool.false_or, Bool.true_or, Bool.or_false, Bool.or_true, if_true, if_false, ite_self, ms_u_s, ms_u_r, ms_u_i, ms_u_u, o1_32, o1_34, na_le, na_up, if_neg, hA, hs]
    rw [es]
    exact mk_2 hu ht h1 ha hA c hc m (k + 1) (by omega)
theorem sp_99 {u t a seed : Nat} (hz : ms_Z6 I) (hu : u < 8) (ht : t ≤ 8) (h1 : 1 ≤ t) (ha : a < 2305843009213693951) (hs : seed < 2305843009213693951) (hA : J 32 u 0 = lN a) (hS : J 32 u 2 = lN seed) : ∃ I', ms_G 99 0 [.ref (ms_ad 31 u), .ref (ms_ad 4 0), .int (nI t), .null, .null] [] (ms_Z q false I J) = some (.inl none, ms_Z q true I' (ms_u (ms_u J 35 u (ms_rw 8 (fun v => ms_sh a (ms_cf seed 0 u) (v + 1) t) (J 35 u))) 34 u (ms_rw 8 (fun v => ms_sh seed (ms_cf seed 1 u) (v + 1) t) (J 34 u)))) ∧ ms_fI I I' ∧ ms_Z6 I' := by
  obtain ⟨I1, eI1⟩ : ∃ I1, I1 = ms_bkI I seed (nI 0) (nI 2) (nI u) (nI 0) := ⟨_, rfl⟩
  obtain ⟨I2, eI2⟩ : ∃ I2, I2 = ms_bkI I1 seed (nI 0) (nI 3) (nI u) (nI 0) := ⟨_, rfl⟩
  have z1 : ms_Z6 I1 := by rw [eI1]; exact bk_keep hz
  have z2 : ms_Z6 I2 := by rw [eI2]; exact bk_keep z1
  have c1 : ∀ k, 1 ≤ k → k < 8 → ms_cf seed 0 u k = ms_num (I1 7 0 (2 * (k - 1))) (I1 7 0 (2 * (k - 1) + 1)) := fun k k1 k2 => by
    rw [eI1, bk_word hz (by omega), bk_word hz (by omega)]
    rfl
  have c2 : ∀ k, 1 ≤ k → k < 8 → ms_cf seed 1 u k = ms_num (I2 7 0 (2 * (k - 1))) (I2 7 0 (2 * (k - 1) + 1)) := fun k k1 k2 => by
    rw [eI2, bk_word z1 (by omega), bk_word z1 (by omega)]
    rfl
  have m1 := mk_1 (q := q) (I := I1) (J := J) hu ht h1 ha hA (ms_cf seed 0 u) c1 (f := J 35 u) 8 0 rfl
  rw [ms_rw_0, ms_u_id] at m1
  obtain ⟨J1, eJ1⟩ : ∃ J1, J1 = ms_u J 35 u (ms_rw 8 (fun v => ms_sh a (ms_cf seed 0 u) (v + 1) t) (J 35 u)) := ⟨_, rfl⟩
  rw [← eJ1] at m1
  have hS1 : J1 32 u 2 = lN seed := by rw [eJ1, ms_u_r _ _ _ _ (by decide)]; exact hS
  have e34 : J1 34 u = J 34 u := by rw [eJ1, ms_u_r _ _ _ _ (by decide)]
  have m2 := mk_2 (q := q) (I := I2) (J := J1) hu ht h1 hs hS1 (ms_cf seed 1 u) c2 (f := J 34 u) 8 0 rfl
  rw [ms_rw_0, ← e34, ms_u_id, e34] at m2
  have b1 := sp_69 (q := q) (I := I) (J := J) (v := seed) (n := nI 0) (a := nI 2) (b := nI u) hs
  have b2 := sp_69 (q := q) (I := I1) (J := J1) (v := seed) (n := nI 0) (a := nI 3) (b := nI u) hs
  rw [← eI1] at b1
  rw [← eI2] at b2
  refine ⟨I2, ?_, ?_, z2⟩
  · simp (disch := omega) only [↓mi_99_0, ↓mi_99_1, ↓mi_99_2, ↓mi_99_5, ↓mi_99_6, ↓mi_99_7, ↓mi_99_8, ↓mi_99_9, ↓mi_99_12, ↓mi_99_13, ↓mi_99_16, ↓mi_99_17, ↓mi_99_18, cond_true, mz_clv, mz_cln, Bool.false_or, Bool.true_or, Bool.or_false, Bool.or_true, if_true, if_false, ite_self, o1_32, hS, sv_3, b1]
    rw [m1]
    simp (disch := omega) only [↓mi_99_53, ↓mi_99_54, ↓mi_99_55, ↓mi_99_58, ↓mi_99_59, ↓mi_99_60, ↓mi_99_61, ↓mi_99_62, ↓mi_99_65, ↓mi_99_66, ↓mi_99_69, ↓mi_99_70, ↓mi_99_71, cond_true, mz_clv, mz_cln, Bool.false_or, Bool.true_or, Bool.or_false, Bool.or_true, if_true, if_false, ite_self, o1_32, hS1, sv_3, b2]
    rw [m2, eJ1]
  · intro r' u' k6 k7 k12 k13
    rw [eI2, bk_else k6 k7, eI1, bk_else k6 k7]
end Shm
