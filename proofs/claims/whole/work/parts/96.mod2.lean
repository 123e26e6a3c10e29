/-! MASKED WORDS, in the model. -/
section Mod2
variable {q : Nat × Nat} {w : Bool} {I : ms_i} {J : ms_j} {σ : ms_M}
theorem sw_k {v k : Nat} {a b : Int32} (hv : v < 2305843009213693951) (hk : k < 4) : ms_G 27 0 [.ref (ms_ad 40 0), .long (lN v), .null, .int a, .int b, .int (nI k)] [] (ms_Z q false I J) = some (.inl (some (.int (ms_blk v (nI 0) a b (nI 0) k))), ms_Z q true (ms_mxI I v (nI 0) a b (nI 0)) J) := by
  have h := sp_27 (q := q) (I := I) (J := J) (v := v) (a := a) (b := b) (k := k) hv (by omega)
  rw [show k / 16 = 0 by omega, show k % 16 = k by omega] at h
  exact h
theorem mm_1 {u a0 x2 : Nat} {inp : Nat → Int32} (hu : u < 8) (ha : a0 + 64 < 4480) (l2 : x2 < 2305843009213693951) (hC : J 41 0 (3 * u + 2) = lN x2) {l4 l5 l6 l7 : Value} : ∀ d k I, d + k = 4 → (∀ k, k < 4 → I 42 0 (4 * u + k) = inp k) → ∃ I', ms_G 47 11 [.ref (ms_ad 40 0), .int (nI u), .int (nI a0), .int (nI k), l4, l5, l6, l7] [] (ms_Z q true I J) = ms_G 47 58 [.ref (ms_ad 40 0), .int (nI u), .int (nI a0), .int (nI 4), l4, l5, l6, l7] [] (ms_Z q true I' J) ∧ (∀ j, k ≤ j → j < 4 → I' 56 0 (a0 + j) = inp j + ms_blk x2 (nI 0) (nI 0) (nI u) (nI 0) j) ∧ (∀ i, i < a0 + k ∨ a0 + 4 ≤ i → I' 56 0 i = I 56 0 i) ∧ ms_fq [56, 58, 59, 63, 64] I I'
  | 0, k, I, hk, hI => by
    have : k = 4 := by omega
    subst this
    refine ⟨I, ?_, fun j a b => absurd a (by omega), fun _ _ => rfl, fr_rf⟩
    simp (disch := omega) only [↓mi_47_11, ↓mi_47_12, ↓mi_47_13, na_le, if_pos]
  | d + 1, k, I, hk, hI => by
    obtain ⟨I1, e1⟩ : ∃ I1, I1 = ms_mxI I x2 (nI 0) (nI 0) (nI u) (nI 0) := ⟨_, rfl⟩
    have m1 := sw_k (q := q) (I := I) (J := J) (v := x2) (k := k) (a := nI 0) (b := nI u) l2 (by omega)
    rw [← e1] at m1
    obtain ⟨I2, e2⟩ : ∃ I2, I2 = ms_u I1 56 0 (upd (I1 56 0) (a0 + k) (inp k + ms_blk x2 (nI 0) (nI 0) (nI u) (nI 0) k)) := ⟨_, rfl⟩
    have fr2 : ms_fq [56, 58, 59, 63, 64] I I2 := by rw [e2, e1]; exact fr_tr fr_mx (fr_u rfl)
    have e56 : I1 56 0 = I 56 0 := by rw [e1, mx_else (by decide) (by decide)]
    have hIk := hI k (by omega)
    obtain ⟨I', r, w, o, f⟩ := mm_1 (inp := inp) hu ha l2 hC (l4 := l4) (l5 := l5) (l6 := l6) (l7 := l7) d (k + 1) I2 (by omega) (by rw [fr_at fr2 42 rfl 0]; exact hI)
    refine ⟨I', ?_, ?_, ?_, fr_tr fr2 f⟩
    · rw [mi_47_11]
      simp (disch := omega) only [↓mi_47_12, ↓mi_47_13, ↓mi_47_16, ↓mi_47_17, ↓mi_47_20, ↓mi_47_21, ↓mi_47_22, ↓mi_47_23, ↓mi_47_24, ↓mi_47_27, ↓mi_47_28, ↓mi_47_29, ↓mi_47_30, ↓mi_47_31, ↓mi_47_32, ↓mi_47_33, ↓mi_47_34, ↓mi_47_35, ↓mi_47_38, ↓mi_47_39, ↓mi_47_40, ↓mi_47_41, ↓mi_47_42, ↓mi_47_43, ↓mi_47_44, ↓mi_47_45, ↓mi_47_46, ↓mi_47_47, ↓mi_47_50, ↓mi_47_51, ↓mi_47_52, ↓mi_47_55, cond_true, mz_clv, mz_cln, Bool.false_or, Bool.true_or, Bool.or_false, Bool.or_true, if_true, if_false, ite_self, o0_42, o0_56, o1_41, na_le, na_up, pk_mul, if_neg, hIk, hC, m1, ← e2]
      exact r
    · intro j a b
      by_cases e : j = k
      · subst e
        rw [o _ (by omega), e2, ms_u_s, pk_us]
      · exact w j (by omega) b
    · intro i hi
      rw [o i (by omega), e2, ms_u_s, pk_un (by omega), e56]
theorem mm_2 {u v a0 x : Nat} (hu : u < 8) (hv : v < 8) (ha : a0 + 64 < 4480) (lx : x < 2305843009213693951) : ∀ d k I, d + k = 4 → ∃ I', (∀ l7, ∃ l7', ms_G 47 138 [.ref (ms_ad 40 0), .int (nI u), .int (nI a0), .int (nI v), .long (lN x), .null, .int (nI k), l7] [] (ms_Z q true I J) = ms_G 47 187 [.ref (ms_ad 40 0), .int (nI u), .int (nI a0), .int (nI v), .long (lN x), .null, .int (nI 4), l7'] [] (ms_Z q true I' J)) ∧ (∀ j, k ≤ j → j < 4 → I' 56 0 (a0 + j) = I 56 0 (a0 + j) + (if u < v then ms_blk x (nI 0) (nI 1) (nI 0) (nI 0) j else - ms_blk x (nI 0) (nI 1) (nI 0) (nI 0) j)) ∧ (∀ i, i < a0 + k ∨ a0 + 4 ≤ i → I' 56 0 i = I 56 0 i) ∧ ms_fq [56, 58, 59, 63, 64] I I'
  | 0, k, I, hk => by
    have : k = 4 := by omega
    subst this
    refine ⟨I, fun l7 => ⟨l7, ?_⟩, fun j a b => absurd a (by omega), fun _ _ => rfl, fr_rf⟩
    simp (disch := omega) only [↓mi_47_138, ↓mi_47_140, ↓mi_47_141, na_le, if_pos]
  | d + 1, k, I, hk => by
    obtain ⟨I1, e1⟩ : ∃ I1, I1 = ms_mxI I x (nI 0) (nI 1) (nI 0) (nI 0) := ⟨_, rfl⟩
    have m1 := sw_k (q := q) (I := I) (J := J) (v := x) (k := k) (a := nI 1) (b := nI 0) lx (by omega)
    rw [← e1] at m1
    obtain ⟨z, ez⟩ : ∃ z, z = I1 56 0 (a0 + k) + (if u < v then ms_blk x (nI 0) (nI 1) (nI 0) (nI 0) k else - ms_blk x (nI 0) (nI 1) (nI 0) (nI 0) k) := ⟨_, rfl⟩
    obtain ⟨I2, e2⟩ : ∃ I2, I2 = ms_u I1 56 0 (upd (I1 56 0) (a0 + k) z) := ⟨_, rfl⟩
    have fr2 : ms_fq [56, 58, 59, 63, 64] I I2 := by rw [e2, e1]; exact fr_tr fr_mx (fr_u rfl)
    have e56 : I1 56 0 = I 56 0 := by rw [e1, mx_else (by decide) (by decide)]
    obtain ⟨I', rr, w, o, f⟩ := mm_2 hu hv ha lx d (k + 1) I2 (by omega)
    obtain ⟨l7', r⟩ := rr (.int (ms_blk x (nI 0) (nI 1) (nI 0) (nI 0) k))
    refine ⟨I', fun l7 => ⟨l7', ?_⟩, ?_, ?_, fr_tr fr2 f⟩
    · rw [mi_47_138]
      by_cases h : u < v
      · rw [if_pos h] at ez
        simp (disch := omega) only [↓mi_47_140, ↓mi_47_141, ↓mi_47_144, ↓mi_47_145, ↓mi_47_147, ↓mi_47_148, ↓mi_47_149, ↓mi_47_151, ↓mi_47_154, ↓mi_47_156, ↓mi_47_157, ↓mi_47_160, ↓mi_47_161, ↓mi_47_163, ↓mi_47_164, ↓mi_47_165, ↓mi_47_166, ↓mi_47_167, ↓mi_47_168, ↓mi_47_171, ↓mi_47_173, ↓mi_47_176, ↓mi_47_178, ↓mi_47_179, ↓mi_47_180, ↓mi_47_181, ↓mi_47_184, cond_true, mz_clv, mz_cln, Bool.false_or, Bool.true_or, Bool.or_false, Bool.or_true, if_true, if_false, ite_self, o0_56, na_le, na_up, if_neg, m1, ← ez, ← e2]
        exact r
      · rw [if_neg h] at ez
        simp (disch := omega) only [↓mi_47_140, ↓mi_47_141, ↓mi_47_144, ↓mi_47_145, ↓mi_47_147, ↓mi_47_148, ↓mi_47_149, ↓mi_47_151, ↓mi_47_154, ↓mi_47_156, ↓mi_47_157, ↓mi_47_160, ↓mi_47_161, ↓mi_47_163, ↓mi_47_164, ↓mi_47_165, ↓mi_47_166, ↓mi_47_167, ↓mi_47_168, ↓mi_47_171, ↓mi_47_173, ↓mi_47_176, ↓mi_47_178, ↓mi_47_179, ↓mi_47_180, ↓mi_47_181, ↓mi_47_184, cond_true, mz_clv, mz_cln, Bool.false_or, Bool.true_or, Bool.or_false, Bool.or_true, if_true, if_false, ite_self, o0_56, na_le, na_up, if_neg, if_pos, m1, ← ez, ← e2]
        exact r
    · intro j a b
      by_cases e : j = k
      · subst e
        rw [o _ (by omega), e2, ms_u_s, pk_us, ez, e56]
      · rw [w j (by omega) b, e2, ms_u_s, pk_un (by omega), e56]
    · intro i hi
      rw [o i (by omega), e2, ms_u_s, pk_un (by omega), e56]
theorem mm_3 {u a0 n x0 x2 : Nat} {inp : Nat → Int32} {nm1 : Int32} {ky : Nat → Int32} (hu : u < 8) (hn : n ≤ 8) (ha : a0 + 64 < 4480) (l0 : x0 < 2305843009213693951) (hA : J 41 0 (3 * u) = lN x0) : ∀ d v I, d + v = n → I 40 0 1 = nI n → I 47 0 (3 * u + 1) = nm1 → (∀ k, k < 32 → I 48 0 (32 * u + k) = ky k) → (∀ k, k < 4 → I 56 0 (a0 + k) = ms_w2 u x0 x2 inp nm1 ky k v) → ∃ I', (∀ w l4 l5 l6 l7, w = true → ms_G 47 60 [.ref (ms_ad 40 0), .int (nI u), .int (nI a0), .int (nI v), l4, l5, l6, l7] [] (ms_Z q w I J) = some (.inl none, ms_Z q true I' J)) ∧ (∀ k, k < 4 → I' 56 0 (a0 + k) = ms_w2 u x0 x2 inp nm1 ky k n) ∧ (∀ i, i < a0 ∨ a0 + 4 ≤ i → I' 56 0 i = I 56 0 i) ∧ ms_fq [56, 58, 59, 63, 64] I I'
  | 0, v, I, hv, hN, hM, hK, hW => by
    have : v = n := by omega
    subst this
    refine ⟨I, ?_, hW, fun _ _ => rfl, fr_rf⟩
    intro w l4 l5 l6 l7 hw
    subst hw
    simp (disch := omega) only [↓mi_47_60, ↓mi_47_61, ↓mi_47_62, ↓mi_47_65, ↓mi_47_193, hN, na_le, if_pos]
  | d + 1, v, I, hv, hN, hM, hK, hW => by
    have eW : ∀ k, ms_w2 u x0 x2 inp nm1 ky k (v + 1) = if v ≠ u ∧ ms_bit nm1 v = true then ms_w2 u x0 x2 inp nm1 ky k v + (if u < v then ms_blk (ms_pw (ms_num (ky (4 * v)) (ky (4 * v + 1))) x0) (nI 0) (nI 1) (nI 0) (nI 0) k else - ms_blk (ms_pw (ms_num (ky (4 * v)) (ky (4 * v + 1))) x0) (nI 0) (nI 1) (nI 0) (nI 0) k) else ms_w2 u x0 x2 inp nm1 ky k v := fun _ => rfl
    by_cases hskip : v = u ∨ ms_bit nm1 v = false
    · obtain ⟨I', r, w2, o2, f2⟩ := mm_3 (x2 := x2) (inp := inp) (nm1 := nm1) (ky := ky) hu hn ha l0 hA d (v + 1) I (by omega) hN hM hK (fun k hk => by
        rw [eW, if_neg (fun z => by
          rcases hskip with h | h
          · exact z.1 h
          · rw [h] at z; cases z.2)]
        exact hW k hk)
      refine ⟨I', ?_, w2, o2, f2⟩
      intro w l4 l5 l6 l7 hw
      subst hw
      rw [mi_47_60]
      by_cases hvu : v = u
      · simp (disch := omega) only [↓mi_47_61, ↓mi_47_62, ↓mi_47_65, ↓mi_47_68, ↓mi_47_69, ↓mi_47_70, ↓mi_47_187, ↓mi_47_190, hN, na_le, na_eq, na_up, if_neg, if_pos hvu]
        exact r _ _ _ _ _ rfl
      · have hc := hskip.resolve_left hvu
        simp (disch := omega) only [↓mi_47_61, ↓mi_47_62, ↓mi_47_65, ↓mi_47_68, ↓mi_47_69, ↓mi_47_70, ↓mi_47_73, ↓mi_47_74, ↓mi_47_77, ↓mi_47_78, ↓mi_47_79, ↓mi_47_80, ↓mi_47_81, ↓mi_47_82, ↓mi_47_83, ↓mi_47_84, ↓mi_47_87, ↓mi_47_90, ↓mi_47_187, ↓mi_47_190, cond_true, mz_clv, mz_cln, Bool.false_or, Bool.true_or, Bool.or_false, Bool.or_true, if_true, if_false, ite_self, o0_47, hN, na_le, na_eq, na_up, pk_mul, if_neg, hM, sp_42, hc, if_pos b_f]
        exact r _ _ _ _ _ rfl
    · have hvu : v ≠ u := fun z => hskip (Or.inl z)
      have hc : ms_bit nm1 v = true := by
        cases h : ms_bit nm1 v with
        | true => rfl
        | false => exact absurd (Or.inr h) hskip
      have k1 := hK (4 * v) (by omega)
      have k2 := hK (4 * v + 1) (by omega)
      rw [← Nat.add_assoc] at k2
      obtain ⟨x, ex⟩ : ∃ x, x = ms_pw (ms_num (ky (4 * v)) (ky (4 * v + 1))) x0 := ⟨_, rfl⟩
      have lx : x < 2305843009213693951 := by rw [ex]; exact ms_pw_lt _ _
      obtain ⟨I1, r1, w1, o1, f1⟩ := mm_2 (q := q) (J := J) (u := u) (v := v) (a0 := a0) (x := x) hu (by omega) ha lx 4 0 I rfl
      obtain ⟨I', r, w2, o2, f2⟩ := mm_3 (x2 := x2) (inp := inp) (nm1 := nm1) (ky := ky) hu hn ha l0 hA d (v + 1) I1 (by omega) (by rw [fr_at f1 40 rfl 0]; exact hN) (by rw [fr_at f1 47 rfl 0]; exact hM) (by rw [fr_at f1 48 rfl 0]; exact hK) (fun k hk => by rw [eW, if_pos (⟨hvu, hc⟩ : v ≠ u ∧ ms_bit nm1 v = true), w1 k (by omega) hk, hW k hk, ← ex])
      refine ⟨I', ?_, w2, fun i hi => by rw [o2 i hi, o1 i (by omega)], fr_tr f1 f2⟩
      intro w l4 l5 l6 l7 hw
      subst hw
      obtain ⟨l7', r3⟩ := r1 l7
      rw [mi_47_60]
      simp (disch := omega) only [↓mi_47_61, ↓mi_47_62, ↓mi_47_65, ↓mi_47_68, ↓mi_47_69, ↓mi_47_70, ↓mi_47_73, ↓mi_47_74, ↓mi_47_77, ↓mi_47_78, ↓mi_47_79, ↓mi_47_80, ↓mi_47_81, ↓mi_47_82, ↓mi_47_83, ↓mi_47_84, ↓mi_47_87, ↓mi_47_90, ↓mi_47_93, ↓mi_47_94, ↓mi_47_95, ↓mi_47_98, ↓mi_47_100, ↓mi_47_101, ↓mi_47_102, ↓mi_47_103, ↓mi_47_104, ↓mi_47_105, ↓mi_47_106, ↓mi_47_107, ↓mi_47_108, ↓mi_47_111, ↓mi_47_113, ↓mi_47_114, ↓mi_47_115, ↓mi_47_116, ↓mi_47_117, ↓mi_47_118, ↓mi_47_119, ↓mi_47_120, ↓mi_47_121, ↓mi_47_122, ↓mi_47_123, ↓mi_47_126, ↓mi_47_127, ↓mi_47_128, ↓mi_47_129, ↓mi_47_130, ↓mi_47_133, ↓mi_47_135, ↓mi_47_136, cond_true, mz_clv, mz_cln, Bool.false_or, Bool.true_or, Bool.or_false, Bool.or_true, if_true, if_false, ite_self, o0_47, o0_48, o1_41, hN, na_le, na_eq, na_up, pk_mul, if_neg, hM, sp_42, hc, if_neg b_t, k1, k2, hA, sp_33, ← ex]
      rw [r3]
      simp (disch := omega) only [↓mi_47_187, ↓mi_47_190, na_up]
      exact r _ _ _ _ _ rfl
theorem sp_47 {u m n x0 x2 : Nat} {inp : Nat → Int32} {nm1 : Int32} {ky : Nat → Int32} (hu : u < 8) (hn : n ≤ 8) (hm : m < 56) (l0 : x0 < 2305843009213693951) (l2 : x2 < 2305843009213693951) (hS : I 40 0 20 = nI m) (hN : I 40 0 1 = nI n) (hM : I 47 0 (3 * u + 1) = nm1) (hK : ∀ k, k < 32 → I 48 0 (32 * u + k) = ky k) (hI : ∀ k, k < 4 → I 42 0 (4 * u + k) = inp k) (hA : J 41 0 (3 * u) = lN x0) (hC : J 41 0 (3 * u + 2) = lN x2) (hb : ∀ v, n ≤ v → v < 8 → ms_bit nm1 v = false) : ∃ I', ms_G 47 0 [.ref (ms_ad 40 0), .int (nI u), .null, .null, .null, .null, .null, .null] [] (ms_Z q false I J) = some (.inl none, ms_Z q true I' J) ∧ (∀ i, i < 4 → I' 56 0 (70 * m + 4 + i) = ms_w2 u x0 x2 inp nm1 ky i 8) ∧ (∀ i, i < 70 * m + 4 → I' 56 0 i = ms_po m 2 u 0 4 (I 56 0) i) ∧ I' 40 0 = upd (I 40 0) 20 (nI (m + 1)) ∧ ms_fq [40, 56, 58, 59, 63, 64] I I' := by
  have p1 := sp_40 (q := q) (J := J) (s := 2) (u := u) (b := 0) (l := 4) hm (by decide) hS
  obtain ⟨I1, e1⟩ : ∃ I1, I1 = ms_u (ms_u I 56 0 (ms_po m 2 u 0 4 (I 56 0))) 40 0 (upd (I 40 0) 20 (nI (m + 1))) := ⟨_, rfl⟩
  rw [← e1] at p1
  have e56 : I1 56 0 = ms_po m 2 u 0 4 (I 56 0) := by rw [e1, ms_u_r _ _ _ _ (by decide), ms_u_s]
  have e40 : I1 40 0 = upd (I 40 0) 20 (nI (m + 1)) := by rw [e1, ms_u_s]
  have fr1 : ms_fq [40, 56] I I1 := by rw [e1]; exact fr_tr (fr_u rfl) (fr_u rfl)
  obtain ⟨I2, r2, w2, o2, f2⟩ := mm_1 (q := q) (J := J) (u := u) (a0 := 70 * m + 4) (x2 := x2) (inp := inp) hu (by omega) l2 hC (l4 := .null) (l5 := .null) (l6 := .null) (l7 := .null) 4 0 I1 rfl (by rw [fr_at fr1 42 rfl 0]; exact hI)
  obtain ⟨I3, r3, w3, o3, f3⟩ := mm_3 (q := q) (J := J) (u := u) (a0 := 70 * m + 4) (x2 := x2) (inp := inp) (nm1 := nm1) (ky := ky) hu hn (by omega) l0 hA n 0 I2 rfl (by rw [fr_at f2 40 rfl 0, e40, pk_un (by decide)]; exact hN) (by rw [fr_at f2 47 rfl 0, fr_at fr1 47 rfl 0]; exact hM) (by rw [fr_at f2 48 rfl 0, fr_at fr1 48 rfl 0]; exact hK) (fun k hk => w2 k (by omega) hk)
  refine ⟨I3, ?_, ?_, ?_, ?_, ?_⟩
  · simp (disch := omega) only [↓mi_47_0, ↓mi_47_1, ↓mi_47_2, ↓mi_47_3, ↓mi_47_4, ↓mi_47_5, ↓mi_47_8, ↓mi_47_9, ↓mi_47_10, cond_true, mz_clv, mz_cln, Bool.false_or, Bool.true_or, Bool.or_false, Bool.or_true, if_true, if_false, ite_self, p1]
    rw [r2]
    simp (disch := omega) only [↓mi_47_58, ↓mi_47_59]
    exact r3 _ _ _ _ _ rfl
  · intro i hi
    rw [w3 i hi, w2_hi hb 8 hn (by omega)]
  · intro i hi
    rw [o3 i (by omega), o2 i (by omega), e56]
  · rw [fr_at f3 40 rfl 0, fr_at f2 40 rfl 0, e40]
  · exact fr_tr (fr_up fr1 rfl) (fr_tr (fr_up f2 rfl) (fr_up f3 rfl))
end Mod2
