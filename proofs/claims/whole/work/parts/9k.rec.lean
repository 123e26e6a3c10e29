/-! THE SUM IS MADE, in the model. -/
theorem jn_cg {h : Nat} {f g : Nat → Nat} (e : ∀ v, v < 8 → f v = g v) : ms_jn h f = ms_jn h g := by
  unfold ms_jn
  rw [T_cg 8 e]
section Rec
variable {q : Nat × Nat} {w : Bool} {I : ms_i} {J : ms_j} {σ : ms_M}
theorem mc_l {v x : Nat} {msk : Nat → Int32} (hv : v < 8) (lx : x < 2305843009213693951) (hJ : J 40 0 32 = lN x) : ∀ d k I, d + k = 4 → (∀ i, i < 4 → I 54 0 (4 * v + i) = msk i) → ∃ I', (∀ l4 l5 l6 l7, ms_G 59 69 [.ref (ms_ad 40 0), .int (nI v), .int (ms_b true), .int (nI k), l4, l5, l6, l7] [] (ms_Z q true I J) = ms_G 59 115 [.ref (ms_ad 40 0), .int (nI v), .int (ms_b true), .int (nI 4), l4, l5, l6, l7] [] (ms_Z q true I' J)) ∧ (∀ j, k ≤ j → j < 4 → I' 57 0 j = I 57 0 j + (msk j - ms_blk x (nI 0) (nI 0) (nI v) (nI 0) j)) ∧ (∀ j, j < k → I' 57 0 j = I 57 0 j) ∧ ms_fq [57, 58, 59] I I'
  | 0, k, I, hk, hM => by
    have : k = 4 := by omega
    subst this
    refine ⟨I, ?_, fun j a b => absurd a (by omega), fun _ _ => rfl, fr_rf⟩
    intro l4 l5 l6 l7
    simp (disch := omega) only [↓mi_59_69, ↓mi_59_70, ↓mi_59_71, na_le, if_pos]
  | d + 1, k, I, hk, hM => by
    have m1 := sw_k (q := q) (I := I) (J := J) (v := x) (k := k) (a := nI 0) (b := nI v) lx (by omega)
    obtain ⟨I1, e1⟩ : ∃ I1, I1 = ms_mxI I x (nI 0) (nI 0) (nI v) (nI 0) := ⟨_, rfl⟩
    rw [← e1] at m1
    have e57 : I1 57 0 = I 57 0 := by rw [e1, mx_else (by decide) (by decide)]
    obtain ⟨I2, e2⟩ : ∃ I2, I2 = ms_u I1 57 0 (upd (I1 57 0) k (I 57 0 k + (msk k - ms_blk x (nI 0) (nI 0) (nI v) (nI 0) k))) := ⟨_, rfl⟩
    have fr2 : ms_fq [57, 58, 59] I I2 := by
      intro r hr
      funext u
      simp only [List.mem_cons, List.not_mem_nil, or_false, not_or] at hr
      rw [e2, ms_u_r _ _ _ _ (by omega), e1, mx_else (by omega) (by omega)]
    obtain ⟨I', r, a, b, c⟩ := mc_l (msk := msk) hv lx hJ d (k + 1) I2 (by omega) (fun i hi => by rw [fr_at fr2 54 rfl 0]; exact hM i hi)
    have hm := hM k (by omega)
    refine ⟨I', ?_, ?_, ?_, fr_tr fr2 c⟩
    · intro l4 l5 l6 l7
      rw [mi_59_69]
      simp (disch := omega) only [↓mi_59_70, ↓mi_59_71, ↓mi_59_74, ↓mi_59_75, ↓mi_59_78, ↓mi_59_79, ↓mi_59_82, ↓mi_59_83, ↓mi_59_84, ↓mi_59_85, ↓mi_59_86, ↓mi_59_89, ↓mi_59_90, ↓mi_59_91, ↓mi_59_92, ↓mi_59_93, ↓mi_59_94, ↓mi_59_95, ↓mi_59_96, ↓mi_59_97, ↓mi_59_100, ↓mi_59_101, ↓mi_59_102, ↓mi_59_103, ↓mi_59_106, ↓mi_59_107, ↓mi_59_108, ↓mi_59_109, ↓mi_59_112, cond_true, mz_clv, mz_cln, Bool.false_or, Bool.true_or, Bool.or_false, Bool.or_true, if_true, if_false, ite_self, o0_54, o0_57, na_le, na_up, pk_mul, if_neg, if_neg b_t, hm, hJ, m1, ← e2]
      exact r _ _ _ _
    · intro j a1 a2
      by_cases e : j = k
      · subst e
        rw [b j (by omega), e2, ms_u_s, pk_us]
      · rw [a j (by omega) a2, e2, ms_u_s, pk_un e, e57]
    · intro j hj
      rw [b j (by omega), e2, ms_u_s, pk_un (by omega), e57]
theorem mq_l {v u y : Nat} (hv : v < 8) (hu : u < 8) (hne : u ≠ v) (ly : y < 2305843009213693951) {l2 : Value} : ∀ d k I, d + k = 4 → ∃ I', (∀ l7, ∃ l7', ms_G 59 176 [.ref (ms_ad 40 0), .int (nI v), l2, .int (nI u), .long (lN y), .null, .int (nI k), l7] [] (ms_Z q true I J) = ms_G 59 223 [.ref (ms_ad 40 0), .int (nI v), l2, .int (nI u), .long (lN y), .null, .int (nI 4), l7'] [] (ms_Z q true I' J)) ∧ (∀ j, k ≤ j → j < 4 → I' 57 0 j = I 57 0 j + (if v < u then ms_blk y (nI 0) (nI 1) (nI 0) (nI 0) j else - ms_blk y (nI 0) (nI 1) (nI 0) (nI 0) j)) ∧ (∀ j, j < k → I' 57 0 j = I 57 0 j) ∧ ms_fq [57, 58, 59] I I'
  | 0, k, I, hk => by
    have : k = 4 := by omega
    subst this
    refine ⟨I, fun l7 => ⟨l7, ?_⟩, fun j a b => absurd a (by omega), fun _ _ => rfl, fr_rf⟩
    simp (disch := omega) only [↓mi_59_176, ↓mi_59_178, ↓mi_59_179, na_le, if_pos]
  | d + 1, k, I, hk => by
    have m1 := sw_k (q := q) (I := I) (J := J) (v := y) (k := k) (a := nI 1) (b := nI 0) ly (by omega)
    obtain ⟨I1, e1⟩ : ∃ I1, I1 = ms_mxI I y (nI 0) (nI 1) (nI 0) (nI 0) := ⟨_, rfl⟩
    rw [← e1] at m1
    have e57 : I1 57 0 = I 57 0 := by rw [e1, mx_else (by decide) (by decide)]
    obtain ⟨B, eB⟩ : ∃ B, B = ms_blk y (nI 0) (nI 1) (nI 0) (nI 0) k := ⟨_, rfl⟩
    rw [← eB] at m1
    obtain ⟨I2, e2⟩ : ∃ I2, I2 = ms_u I1 57 0 (upd (I1 57 0) k (I 57 0 k + (if v < u then B else - B))) := ⟨_, rfl⟩
    have fr2 : ms_fq [57, 58, 59] I I2 := by
      intro r hr
      funext u
      simp only [List.mem_cons, List.not_mem_nil, or_false, not_or] at hr
      rw [e2, ms_u_r _ _ _ _ (by omega), e1, mx_else (by omega) (by omega)]
    obtain ⟨I', rr, a, b, c⟩ := mq_l hv hu hne ly (l2 := l2) d (k + 1) I2 (by omega)
    obtain ⟨l7', r⟩ := rr (.int B)
    have k57 : I1 57 0 k = I 57 0 k := by rw [e57]
    refine ⟨I', fun l7 => ⟨l7', ?_⟩, ?_, ?_, fr_tr fr2 c⟩
    · rw [mi_59_176]
      by_cases h : v < u
      · rw [if_pos h, show I 57 0 k + B = I 57 0 k - -B by rw [Int32.sub_eq_add_neg, Int32.neg_neg]] at e2
        simp (disch := omega) only [↓mi_59_178, ↓mi_59_179, ↓mi_59_182, ↓mi_59_183, ↓mi_59_185, ↓mi_59_186, ↓mi_59_187, ↓mi_59_189, ↓mi_59_192, ↓mi_59_194, ↓mi_59_195, ↓mi_59_198, ↓mi_59_200, ↓mi_59_201, ↓mi_59_202, ↓mi_59_203, ↓mi_59_204, ↓mi_59_207, ↓mi_59_209, ↓mi_59_212, ↓mi_59_214, ↓mi_59_215, ↓mi_59_216, ↓mi_59_217, ↓mi_59_220, cond_true, mz_clv, mz_cln, Bool.false_or, Bool.true_or, Bool.or_false, Bool.or_true, if_true, if_false, ite_self, o0_57, na_le, na_up, if_neg, if_pos, m1, k57, ← e2]
        exact r
      · rw [if_neg h, ← Int32.sub_eq_add_neg] at e2
        simp (disch := omega) only [↓mi_59_178, ↓mi_59_179, ↓mi_59_182, ↓mi_59_183, ↓mi_59_185, ↓mi_59_186, ↓mi_59_187, ↓mi_59_189, ↓mi_59_192, ↓mi_59_194, ↓mi_59_195, ↓mi_59_198, ↓mi_59_200, ↓mi_59_201, ↓mi_59_202, ↓mi_59_203, ↓mi_59_204, ↓mi_59_207, ↓mi_59_209, ↓mi_59_212, ↓mi_59_214, ↓mi_59_215, ↓mi_59_216, ↓mi_59_217, ↓mi_59_220, cond_true, mz_clv, mz_cln, Bool.false_or, Bool.true_or, Bool.or_false, Bool.or_true, if_true, if_false, ite_self, o0_57, na_le, na_up, if_neg, m1, k57, ← e2]
        exact r
    · intro j a1 a2
      by_cases e : j = k
      · subst e
        rw [b j (by omega), e2, ms_u_s, pk_us, eB]
      · rw [a j (by omega) a2, e2, ms_u_s, pk_un e, e57]
    · intro j hj
      rw [b j (by omega), e2, ms_u_s, pk_un (by omega), e57]
theorem mp_l {v x n : Nat} {n2 : Int32} {ky : Nat → Nat → Int32} {s : Nat → Int32} (hv : v < 8) (hn : n ≤ 8) (lx : x < 2305843009213693951) (hJ : J 40 0 32 = lN x) (hc2 : ms_bit n2 v = false) : ∀ d u I, d + u = n → I 40 0 1 = nI n → I 50 0 2 = n2 → (∀ u, u < 8 → ∀ i, i < 2 → I 52 0 (4 * u + i) = ky u i) → (∀ k, k < 4 → I 57 0 k = ms_pr n2 ky x v k (s k) u) → ∃ I', (∀ l4 l5 l6 l7, ∃ l4' l5' l6' l7', ms_G 59 117 [.ref (ms_ad 40 0), .int (nI v), .int (ms_b false), .int (nI u), l4, l5, l6, l7] [] (ms_Z q true I J) = ms_G 59 229 [.ref (ms_ad 40 0), .int (nI v), .int (ms_b false), .int (nI n), l4', l5', l6', l7'] [] (ms_Z q true I' J)) ∧ (∀ k, k < 4 → I' 57 0 k = ms_pr n2 ky x v k (s k) n) ∧ ms_fq [57, 58, 59] I I'
  | 0, u, I, hu, hN, hM, hK, hS => by
    have : u = n := by omega
    subst this
    refine ⟨I, fun l4 l5 l6 l7 => ⟨l4, l5, l6, l7, ?_⟩, hS, fr_rf⟩
    simp (disch := omega) only [↓mi_59_117, ↓mi_59_118, ↓mi_59_119, ↓mi_59_122, hN, na_le, if_pos]
  | d + 1, u, I, hu, hN, hM, hK, hS => by
    have eS : ∀ k, ms_pr n2 ky x v k (s k) (u + 1) = if ms_bit n2 u = true then ms_pr n2 ky x v k (s k) u + (if v < u then ms_blk (ms_pw (ms_num (ky u 0) (ky u 1)) x) (nI 0) (nI 1) (nI 0) (nI 0) k else - ms_blk (ms_pw (ms_num (ky u 0) (ky u 1)) x) (nI 0) (nI 1) (nI 0) (nI 0) k) else ms_pr n2 ky x v k (s k) u := fun _ => rfl
    cases hc : ms_bit n2 u with
    | false =>
      obtain ⟨I', r, a, c⟩ := mp_l (n2 := n2) (ky := ky) (s := s) hv hn lx hJ hc2 d (u + 1) I (by omega) hN hM hK (fun k hk => by rw [eS, if_neg (fun z => by rw [hc] at z; cases z)]; exact hS k hk)
      refine ⟨I', fun l4 l5 l6 l7 => ?_, a, c⟩
      obtain ⟨l4', l5', l6', l7', r⟩ := r l4 l5 l6 l7
      refine ⟨l4', l5', l6', l7', ?_⟩
      rw [mi_59_117]
      simp (disch := omega) only [↓mi_59_118, ↓mi_59_119, ↓mi_59_122, ↓mi_59_125, ↓mi_59_126, ↓mi_59_129, ↓mi_59_130, ↓mi_59_133, ↓mi_59_134, ↓mi_59_135, ↓mi_59_136, ↓mi_59_139, ↓mi_59_142, ↓mi_59_223, ↓mi_59_226, cond_true, mz_clv, mz_cln, Bool.false_or, Bool.true_or, Bool.or_false, Bool.or_true, if_true, if_false, ite_self, o0_50, hN, hM, na_le, na_up, if_neg, if_pos b_f, sp_42, hc]
      exact r
    | true =>
      have hne : u ≠ v := fun z => by rw [z, hc2] at hc; cases hc
      have k0 : I 52 0 (4 * u) = ky u 0 := hK u (by omega) 0 (by decide)
      have k1 := hK u (by omega) 1 (by decide)
      obtain ⟨y, ey⟩ : ∃ y, y = ms_pw (ms_num (ky u 0) (ky u 1)) x := ⟨_, rfl⟩
      have ly : y < 2305843009213693951 := by rw [ey]; exact ms_pw_lt _ _
      obtain ⟨I1, r1, a1, b1, c1⟩ := mq_l (q := q) (J := J) (v := v) (u := u) (y := y) hv (by omega) hne ly (l2 := .int (ms_b false)) 4 0 I rfl
      obtain ⟨I', r, a, c⟩ := mp_l (n2 := n2) (ky := ky) (s := s) hv hn lx hJ hc2 d (u + 1) I1 (by omega) (by rw [fr_at c1 40 rfl 0]; exact hN) (by rw [fr_at c1 50 rfl 0]; exact hM) (fun u' hu' i hi => by rw [fr_at c1 52 rfl 0]; exact hK u' hu' i hi) (fun k hk => by rw [eS, if_pos hc, a1 k (by omega) hk, hS k hk, ← ey])
      refine ⟨I', fun l4 l5 l6 l7 => ?_, a, fr_tr c1 c⟩
      obtain ⟨l7'', r1⟩ := r1 l7
      obtain ⟨l4', l5', l6', l7', r⟩ := r (.long (lN y)) .null (.int (nI 4)) l7''
      refine ⟨l4', l5', l6', l7', ?_⟩
      rw [mi_59_117]
      simp (disch := omega) only [↓mi_59_118, ↓mi_59_119, ↓mi_59_122, ↓mi_59_125, ↓mi_59_126, ↓mi_59_129, ↓mi_59_130, ↓mi_59_133, ↓mi_59_134, ↓mi_59_135, ↓mi_59_136, ↓mi_59_139, ↓mi_59_142, ↓mi_59_145, ↓mi_59_146, ↓mi_59_147, ↓mi_59_150, ↓mi_59_151, ↓mi_59_152, ↓mi_59_153, ↓mi_59_154, ↓mi_59_155, ↓mi_59_158, ↓mi_59_159, ↓mi_59_160, ↓mi_59_161, ↓mi_59_162, ↓mi_59_163, ↓mi_59_164, ↓mi_59_165, ↓mi_59_168, ↓mi_59_171, ↓mi_59_173, ↓mi_59_174, cond_true, mz_clv, mz_cln, Bool.false_or, Bool.true_or, Bool.or_false, Bool.or_true, if_true, if_false, ite_self, o0_50, o0_52, hN, hM, na_le, na_up, pk_mul, if_neg, if_pos b_f, if_neg b_t, sp_42, hc, k0, k1, hJ, sp_33, ← ey]
      rw [r1]
      simp (disch := omega) only [↓mi_59_223, ↓mi_59_226, na_up]
      exact r
theorem rk_l {t n : Nat} {n1 n2 hd : Int32} {shr msk ky : Nat → Nat → Int32} (ht : t ≤ 8) (hn : n ≤ 8) (n0 : 0 < n) (hb2 : ∀ u, n ≤ u → u < 8 → ms_bit n2 u = false) (hbh : ∀ u, n ≤ u → ms_bit hd u = false) : ∀ d v I J, d + v = n → I 40 0 1 = nI n → I 40 0 2 = nI t → I 50 0 1 = n1 → I 50 0 2 = n2 → I 51 0 3 = hd → (∀ u, u < 8 → ∀ i, i < 2 → I 52 0 (4 * u + i) = ky u i) → (∀ u, u < 8 → ∀ i, i < 4 → I 54 0 (4 * u + i) = msk u i) → (∀ u, u < 8 → ∀ i, i < 17 → I 55 0 (17 * u + i) = shr u i) → (∀ k, k < 4 → I 57 0 k = ms_sm t n1 n2 hd shr msk ky k v) → ∃ I' J', (∀ w l2 l3 l4 l5 l6 l7, w = true → ms_G 59 22 [.ref (ms_ad 40 0), .int (nI v), l2, l3, l4, l5, l6, l7] [] (ms_Z q w I J) = some (.inl (some (.int (ms_b (ms_ao (ms_okv t n1 hd shr) d v)))), ms_Z q true I' J')) ∧ (ms_ao (ms_okv t n1 hd shr) d v = true → ∀ k, k < 4 → I' 57 0 k = ms_sm t n1 n2 hd shr msk ky k n) ∧ ms_fq [57, 58, 59] I I' ∧ ms_fq [40] J J'
  | 0, v, I, J, hv, hN, hT, hM1, hM2, hH, hK, hM, hR, hS => by
    have : v = n := by omega
    subst this
    refine ⟨I, J, ?_, fun _ => hS, fr_rf, fr_rf⟩
    intro w l2 l3 l4 l5 l6 l7 hw
    subst hw
    simp (disch := omega) only [↓mi_59_22, ↓mi_59_23, ↓mi_59_24, ↓mi_59_27, ↓mi_59_235, ↓mi_59_236, ↓mi_59_236_1, ↓mi_59_236_b, hN, na_le, if_pos]
    rfl
  | d + 1, v, I, J, hv, hN, hT, hM1, hM2, hH, hK, hM, hR, hS => by
    have eS : ∀ k, ms_sm t n1 n2 hd shr msk ky k (v + 1) = if ms_bit n1 v = true then (if ms_bit n2 v = true then (ms_sm t n1 n2 hd shr msk ky k v + msk v k) + - ms_blk (ms_jv t hd shr v) (nI 0) (nI 0) (nI v) (nI 0) k else ms_pr n2 ky (ms_jv t hd shr v) v k (ms_sm t n1 n2 hd shr msk ky k v) 8) else ms_sm t n1 n2 hd shr msk ky k v := fun _ => rfl
    have eA : ms_ao (ms_okv t n1 hd shr) (d + 1) v = (ms_okv t n1 hd shr v && ms_ao (ms_okv t n1 hd shr) d (v + 1)) := rfl
    cases hc : ms_bit n1 v with
    | false =>
      have eo : ms_okv t n1 hd shr v = true := by unfold ms_okv; rw [hc]; rfl
      rw [eA, eo, Bool.true_and]
      obtain ⟨I', J', r, a, b, c⟩ := rk_l (n1 := n1) (n2 := n2) (hd := hd) (shr := shr) (msk := msk) (ky := ky) ht hn n0 hb2 hbh d (v + 1) I J (by omega) hN hT hM1 hM2 hH hK hM hR (fun k hk => by rw [eS, if_neg (fun z => by rw [hc] at z; cases z)]; exact hS k hk)
      refine ⟨I', J', ?_, a, b, c⟩
      intro w l2 l3 l4 l5 l6 l7 hw
      subst hw
      rw [mi_59_22]
      simp (disch := omega) only [↓mi_59_23, ↓mi_59_24, ↓mi_59_27, ↓mi_59_30, ↓mi_59_31, ↓mi_59_34, ↓mi_59_35, ↓mi_59_36, ↓mi_59_37, ↓mi_59_40, ↓mi_59_43, ↓mi_59_229, ↓mi_59_232, cond_true, mz_clv, mz_cln, Bool.false_or, Bool.true_or, Bool.or_false, Bool.or_true, if_true, if_false, ite_self, o0_50, hN, hM1, na_le, na_up, if_neg, sp_42, hc, if_pos b_f]
      exact r _ _ _ _ _ _ _ rfl
    | true =>
      obtain ⟨c0, ec0⟩ : ∃ c0 : Nat → Bool, c0 = fun u => ms_bit (I 51 0 3) u && ms_bit (I 55 0 (17 * u)) v := ⟨_, rfl⟩
      have cg : ms_ho c0 t n = ms_ho (ms_hc hd shr v) t 8 := by
        rw [ho_hi (n := n) t (fun k hk => by unfold ms_hc; rw [hbh k hk]; rfl) 8 hn]
        refine ho_cg t n (fun k hk => ?_)
        rw [ec0]
        show (ms_bit (I 51 0 3) k && ms_bit (I 55 0 (17 * k)) v) = (ms_bit hd k && ms_bit (shr k 0) v)
        rw [hH, ← hR k (by omega) 0 (by decide)]
        rfl
      obtain ⟨h, eh⟩ : ∃ h, h = ms_ho (ms_hc hd shr v) t 8 := ⟨_, rfl⟩
      rw [← eh] at cg
      have lh : h < 2 ^ n := by rw [← cg]; exact ho_lt _ _ n
      have pl := pc_le h
      have eo : ms_okv t n1 hd shr v = decide (t ≤ ms_pc h) := by unfold ms_okv; rw [hc, ← eh]; rfl
      rw [eA, eo]
      by_cases hp : t ≤ ms_pc h
      · rw [decide_eq_true hp, Bool.true_and]
        have jo := sp_58y (q := q) (I := I) (J := J) (v := v) (by omega) hn ht hN hT c0 (fun u => by rw [ec0]) (by rw [cg]; omega)
        rw [cg] at jo
        obtain ⟨x, ex⟩ : ∃ x, x = ms_jv t hd shr v := ⟨_, rfl⟩
        have lx : x < 2305843009213693951 := by rw [ex]; exact jv_lt _ _ _ _
        have ejx : mj_T h (fun u => ms_num (I 55 0 (17 * u + 1 + 2 * v)) (I 55 0 (17 * u + 2 + 2 * v))) n % 2305843009213693951 = x := by
          rw [← T_hi lh _ 8 hn, ex]
          unfold ms_jv ms_jn
          rw [← eh, T_cg 8 (fun w' hw' => by
            show ms_num (I 55 0 (17 * w' + 1 + 2 * v)) (I 55 0 (17 * w' + 2 + 2 * v)) = ms_num (shr w' (1 + 2 * v)) (shr w' (1 + 2 * v + 1))
            rw [← hR w' hw' (1 + 2 * v) (by omega), ← hR w' hw' (1 + 2 * v + 1) (by omega), show 17 * w' + 1 + 2 * v = 17 * w' + (1 + 2 * v) by omega, show 17 * w' + 2 + 2 * v = 17 * w' + (1 + 2 * v + 1) by omega])]
        rw [ejx] at jo
        obtain ⟨J1, ej⟩ : ∃ J1, J1 = ms_u J 40 0 (vp_updL (J 40 0) 32 (lN x)) := ⟨_, rfl⟩
        rw [← ej] at jo
        have hJ1 : J1 40 0 32 = lN x := by rw [ej, ms_u_s, pk_uLs]
        have fj : ms_fq [40] J J1 := by rw [ej]; exact fr_u rfl
        have go : ∀ I1, ms_fq [57, 58, 59] I I1 → (∀ k, k < 4 → I1 57 0 k = ms_sm t n1 n2 hd shr msk ky k (v + 1)) → (∀ l3 l4 l5 l6 l7, ∃ l2' l3' l4' l5' l6' l7', ms_G 59 67 [.ref (ms_ad 40 0), .int (nI v), .int (ms_b (ms_bit n2 v)), l3, l4, l5, l6, l7] [] (ms_Z q true I J1) = ms_G 59 229 [.ref (ms_ad 40 0), .int (nI v), l2', l3', l4', l5', l6', l7'] [] (ms_Z q true I1 J1)) → ∃ I' J', (∀ w l2 l3 l4 l5 l6 l7, w = true → ms_G 59 22 [.ref (ms_ad 40 0), .int (nI v), l2, l3, l4, l5, l6, l7] [] (ms_Z q w I J) = some (.inl (some (.int (ms_b (ms_ao (ms_okv t n1 hd shr) d (v + 1))))), ms_Z q true I' J')) ∧ (ms_ao (ms_okv t n1 hd shr) d (v + 1) = true → ∀ k, k < 4 → I' 57 0 k = ms_sm t n1 n2 hd shr msk ky k n) ∧ ms_fq [57, 58, 59] I I' ∧ ms_fq [40] J J' := by
          intro I1 f1 s1 r1
          obtain ⟨I', J', r, a, b, c⟩ := rk_l (n1 := n1) (n2 := n2) (hd := hd) (shr := shr) (msk := msk) (ky := ky) ht hn n0 hb2 hbh d (v + 1) I1 J1 (by omega) (by rw [fr_at f1 40 rfl 0]; exact hN) (by rw [fr_at f1 40 rfl 0]; exact hT) (by rw [fr_at f1 50 rfl 0]; exact hM1) (by rw [fr_at f1 50 rfl 0]; exact hM2) (by rw [fr_at f1 51 rfl 0]; exact hH) (fun u hu i hi => by rw [fr_at f1 52 rfl 0]; exact hK u hu i hi) (fun u hu i hi => by rw [fr_at f1 54 rfl 0]; exact hM u hu i hi) (fun u hu i hi => by rw [fr_at f1 55 rfl 0]; exact hR u hu i hi) s1
          refine ⟨I', J', ?_, a, fr_tr f1 b, fr_tr fj c⟩
          intro w l2 l3 l4 l5 l6 l7 hw
          subst hw
          obtain ⟨l2', l3', l4', l5', l6', l7', r2⟩ := r1 l3 l4 l5 l6 l7
          rw [mi_59_22]
          simp (disch := omega) only [↓mi_59_23, ↓mi_59_24, ↓mi_59_27, ↓mi_59_30, ↓mi_59_31, ↓mi_59_34, ↓mi_59_35, ↓mi_59_36, ↓mi_59_37, ↓mi_59_40, ↓mi_59_43, ↓mi_59_46, ↓mi_59_47, ↓mi_59_48, ↓mi_59_51, ↓mi_59_54, ↓mi_59_55, ↓mi_59_55_1, ↓mi_59_55_b, ↓mi_59_56, ↓mi_59_57, ↓mi_59_60, ↓mi_59_61, ↓mi_59_62, ↓mi_59_63, ↓mi_59_66, cond_true, mz_clv, mz_cln, Bool.false_or, Bool.true_or, Bool.or_false, Bool.or_true, if_true, if_false, ite_self, o0_50, hN, hM1, hM2, na_le, na_eq, na_up, if_neg, sp_42, hc, if_neg b_t, jo]
          rw [r2]
          simp (disch := omega) only [↓mi_59_229, ↓mi_59_232, na_up]
          exact r _ _ _ _ _ _ _ rfl
        cases hc2 : ms_bit n2 v with
        | true =>
          obtain ⟨I1, r1, a1, b1, c1⟩ := mc_l (q := q) (J := J1) (v := v) (x := x) (msk := msk v) (by omega) lx hJ1 4 0 I rfl (fun i hi => hM v (by omega) i hi)
          refine go I1 c1 ?_ ?_
          · intro k hk
            rw [eS, if_pos hc, if_pos hc2, a1 k (by omega) hk, hS k hk, ← ex, Int32.sub_eq_add_neg, Int32.add_assoc]
          · intro l3 l4 l5 l6 l7
            refine ⟨.int (ms_b true), .int (nI 0), l4, l5, l6, l7, ?_⟩
            have hN' : I1 40 0 1 = nI n := by rw [fr_at c1 40 rfl 0]; exact hN
            rw [hc2]
            simp (disch := omega) only [↓mi_59_67, ↓mi_59_68]
            rw [r1]
            simp (disch := omega) only [↓mi_59_115, ↓mi_59_116, ↓mi_59_117, ↓mi_59_118, ↓mi_59_119, ↓mi_59_122, ↓mi_59_125, ↓mi_59_126, cond_true, mz_clv, mz_cln, Bool.false_or, Bool.true_or, Bool.or_false, Bool.or_true, if_true, if_false, ite_self, hN', na_le, if_neg, if_neg b_t]
        | false =>
          obtain ⟨I1, r1, a1, c1⟩ := mp_l (q := q) (J := J1) (v := v) (x := x) (n2 := n2) (ky := ky) (s := fun k => ms_sm t n1 n2 hd shr msk ky k v) (by omega) hn lx hJ1 hc2 n 0 I (by omega) hN hM2 hK (fun k hk => hS k hk)
          refine go I1 c1 ?_ ?_
          · intro k hk
            rw [eS, if_pos hc, if_neg (by rw [hc2]; exact Bool.false_ne_true), a1 k hk, ← ex, pr_hi hb2 8 hn (by omega)]
          · intro l3 l4 l5 l6 l7
            obtain ⟨l4', l5', l6', l7', r2⟩ := r1 l4 l5 l6 l7
            refine ⟨.int (ms_b false), .int (nI n), l4', l5', l6', l7', ?_⟩
            rw [hc2]
            simp (disch := omega) only [↓mi_59_67, ↓mi_59_68, ↓mi_59_69, ↓mi_59_70, ↓mi_59_71, ↓mi_59_74, ↓mi_59_75, ↓mi_59_115, ↓mi_59_116, cond_true, mz_clv, mz_cln, Bool.false_or, Bool.true_or, Bool.or_false, Bool.or_true, if_true, if_false, ite_self, na_le, if_neg, if_pos b_f]
            exact r2
      · rw [decide_eq_false hp, Bool.false_and]
        have jo := sp_58n (q := q) (I := I) (J := J) (v := v) (by omega) hn ht hN hT c0 (fun u => by rw [ec0]) (by rw [cg]; omega)
        refine ⟨I, J, ?_, fun z => absurd z Bool.false_ne_true, fr_rf, fr_rf⟩
        intro w l2 l3 l4 l5 l6 l7 hw
        subst hw
        rw [mi_59_22]
        simp (disch := omega) only [↓mi_59_23, ↓mi_59_24, ↓mi_59_27, ↓mi_59_30, ↓mi_59_31, ↓mi_59_34, ↓mi_59_35, ↓mi_59_36, ↓mi_59_37, ↓mi_59_40, ↓mi_59_43, ↓mi_59_46, ↓mi_59_47, ↓mi_59_48, ↓mi_59_51, ↓mi_59_54, ↓mi_59_55, ↓mi_59_55_1, ↓mi_59_55_b, cond_true, mz_clv, mz_cln, Bool.false_or, Bool.true_or, Bool.or_false, Bool.or_true, if_true, if_false, ite_self, o0_50, hN, hM1, na_le, na_eq, na_up, if_neg, if_pos, sp_42, hc, if_neg b_t, jo]
        rfl
theorem rz_l : ∀ d k I w, d + k = 4 → ∃ I', (∀ l2 l3 l4 l5 l6 l7, ms_G 59 2 [.ref (ms_ad 40 0), .int (nI k), l2, l3, l4, l5, l6, l7] [] (ms_Z q w I J) = ms_G 59 20 [.ref (ms_ad 40 0), .int (nI 4), l2, l3, l4, l5, l6, l7] [] (ms_Z q (w || decide (0 < d)) I' J)) ∧ (∀ j, k ≤ j → j < 4 → I' 57 0 j = nI 0) ∧ (∀ j, j < k → I' 57 0 j = I 57 0 j) ∧ ms_fq [57] I I'
  | 0, k, I, w, hk => by
    have : k = 4 := by omega
    subst this
    refine ⟨I, ?_, fun j a b => absurd a (by omega), fun _ _ => rfl, fr_rf⟩
    intro l2 l3 l4 l5 l6 l7
    simp (disch := omega) only [↓mi_59_2, ↓mi_59_3, ↓mi_59_4, na_le, if_pos, Nat.lt_irrefl, decide_false, Bool.or_false]
  | d + 1, k, I, w, hk => by
    obtain ⟨I1, e1⟩ : ∃ I1, I1 = ms_u I 57 0 (upd (I 57 0) k (nI 0)) := ⟨_, rfl⟩
    obtain ⟨I', r, a, b, c⟩ := rz_l d (k + 1) I1 true (by omega)
    refine ⟨I', ?_, ?_, ?_, fr_tr (by rw [e1]; exact fr_u rfl) c⟩
    · intro l2 l3 l4 l5 l6 l7
      rw [mi_59_2]
      simp (disch := omega) only [↓mi_59_3, ↓mi_59_4, ↓mi_59_7, ↓mi_59_8, ↓mi_59_11, ↓mi_59_12, ↓mi_59_13, ↓mi_59_14, ↓mi_59_17, cond_true, mz_clv, mz_cln, Bool.false_or, Bool.true_or, Bool.or_false, Bool.or_true, if_true, if_false, ite_self, o0_57, na_le, na_up, if_neg, ← e1]
      refine (r _ _ _ _ _ _).trans ?_
      simp
    · intro j a1 a2
      by_cases e : j = k
      · subst e
        rw [b j (by omega), e1, ms_u_s, pk_us]
      · exact a j (by omega) a2
    · intro j hj
      rw [b j (by omega), e1, ms_u_s, pk_un (by omega)]
theorem sp_59 {t n : Nat} {n1 n2 hd : Int32} {shr msk ky : Nat → Nat → Int32} (ht : t ≤ 8) (hn : n ≤ 8) (n0 : 0 < n) (hb1 : ∀ u, n ≤ u → u < 8 → ms_bit n1 u = false) (hb2 : ∀ u, n ≤ u → u < 8 → ms_bit n2 u = false) (hbh : ∀ u, n ≤ u → ms_bit hd u = false) (hN : I 40 0 1 = nI n) (hT : I 40 0 2 = nI t) (hM1 : I 50 0 1 = n1) (hM2 : I 50 0 2 = n2) (hH : I 51 0 3 = hd) (hK : ∀ u, u < 8 → ∀ i, i < 2 → I 52 0 (4 * u + i) = ky u i) (hM : ∀ u, u < 8 → ∀ i, i < 4 → I 54 0 (4 * u + i) = msk u i) (hR : ∀ u, u < 8 → ∀ i, i < 17 → I 55 0 (17 * u + i) = shr u i) : ∃ I' J', ms_G 59 0 [.ref (ms_ad 40 0), .null, .null, .null, .null, .null, .null, .null] [] (ms_Z q false I J) = some (.inl (some (.int (ms_b (ms_ao (ms_okv t n1 hd shr) 8 0)))), ms_Z q true I' J') ∧ (ms_ao (ms_okv t n1 hd shr) 8 0 = true → ∀ k, k < 4 → I' 57 0 k = ms_sm t n1 n2 hd shr msk ky k 8) ∧ ms_fq [57, 58, 59] I I' ∧ ms_fq [40] J J' := by
  obtain ⟨I1, r1, a1, _, c1⟩ := rz_l (q := q) (J := J) 4 0 I false rfl
  obtain ⟨I', J', r, a, b, c⟩ := rk_l (q := q) (n1 := n1) (n2 := n2) (hd := hd) (shr := shr) (msk := msk) (ky := ky) ht hn n0 hb2 hbh n 0 I1 J rfl (by rw [fr_at c1 40 rfl 0]; exact hN) (by rw [fr_at c1 40 rfl 0]; exact hT) (by rw [fr_at c1 50 rfl 0]; exact hM1) (by rw [fr_at c1 50 rfl 0]; exact hM2) (by rw [fr_at c1 51 rfl 0]; exact hH) (fun u hu i hi => by rw [fr_at c1 52 rfl 0]; exact hK u hu i hi) (fun u hu i hi => by rw [fr_at c1 54 rfl 0]; exact hM u hu i hi) (fun u hu i hi => by rw [fr_at c1 55 rfl 0]; exact hR u hu i hi) (fun k hk => a1 k (by omega) hk)
  have ec : ms_ao (ms_okv t n1 hd shr) 8 0 = ms_ao (ms_okv t n1 hd shr) n 0 := by
    have := ao_cut (ok := ms_okv t n1 hd shr) n (8 - n) 0 (fun u z1 z2 => by unfold ms_okv; rw [hb1 u (by omega) (by omega)]; rfl)
    rw [show n + (8 - n) = 8 by omega] at this
    exact this
  rw [ec]
  refine ⟨I', J', ?_, fun z k hk => ?_, fr_tr (fr_up c1 rfl) b, c⟩
  · simp (disch := omega) only [↓mi_59_0, ↓mi_59_1]
    rw [r1]
    simp (disch := omega) only [↓mi_59_20, ↓mi_59_21]
    exact r _ _ _ _ _ _ _ rfl
  · rw [a z k hk, sm_hi hb1 8 hn (by omega)]
end Rec
