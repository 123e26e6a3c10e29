/-! WHAT A PHONE SENDS, in the model. -/
theorem fr_at {α : Type} {R : List Nat} {I I' : Nat → Nat → α} (h : ms_fq R I I') (r : Nat) (hr : R.contains r = false) (u : Nat) : I' r u = I r u := by
  rw [h r (fun hm => by rw [List.contains_iff_mem.mpr hm] at hr; cases hr)]
theorem fr_mx {I : ms_i} {v : Nat} {n a b c : Int32} : ms_fq [56, 58, 59, 63, 64] I (ms_mxI I v n a b c) := fun r hr => by
  funext u
  simp only [List.mem_cons, List.not_mem_nil, or_false, not_or] at hr
  exact mx_else (by omega) (by omega)
theorem fr_58 {I I' : ms_i} (h : ∀ r u, r ≠ 58 → r ≠ 59 → I' r u = I r u) : ms_fq [56, 58, 59, 63, 64] I I' := fun r hr => by
  funext u
  simp only [List.mem_cons, List.not_mem_nil, or_false, not_or] at hr
  exact h r u (by omega) (by omega)
theorem fr_31 {I I' : ms_i} (h : ∀ r u, r ≠ 58 → r ≠ 59 → r ≠ 63 → r ≠ 64 → I' r u = I r u) : ms_fq [56, 58, 59, 63, 64] I I' := fun r hr => by
  funext u
  simp only [List.mem_cons, List.not_mem_nil, or_false, not_or] at hr
  exact h r u (by omega) (by omega) (by omega) (by omega)
theorem fr_31J {J J' : ms_j} (h : ∀ r u, r ≠ 60 → r ≠ 61 → r ≠ 62 → r ≠ 65 → J' r u = J r u) : ms_fq [60, 61, 62, 65] J J' := fun r hr => by
  funext u
  simp only [List.mem_cons, List.not_mem_nil, or_false, not_or] at hr
  exact h r u (by omega) (by omega) (by omega) (by omega)
def ms_cq (b k : Nat) (T f : Nat → Int32) : Nat → Int32 := fun j => if b ≤ j ∧ j < b + k then T (j - b) else f j
theorem ms_cq_s (b k : Nat) (T f : Nat → Int32) : upd (ms_cq b k T f) (b + k) (T k) = ms_cq b (k + 1) T f := by
  funext j
  unfold upd ms_cq
  by_cases h : j = b + k
  · rw [if_pos h, if_pos (by omega), show j - b = k by omega]
  · rw [if_neg h]
    by_cases h2 : b ≤ j ∧ j < b + k
    · rw [if_pos h2, if_pos (by omega)]
    · rw [if_neg h2, if_neg (by omega)]
theorem ms_cq_0 (b : Nat) (T f : Nat → Int32) : ms_cq b 0 T f = f := by
  funext j
  exact if_neg (by omega)
section Mod
variable {q : Nat × Nat} {w : Bool} {I : ms_i} {J : ms_j} {σ : ms_M}
theorem sp_45 {u m x0 x1 : Nat} (hu : u < 8) (hm : m < 56) (hS : I 40 0 20 = nI m) (l0 : x0 < 2305843009213693951) (l1 : x1 < 2305843009213693951) (hA : J 41 0 (3 * u) = lN x0) (hB : J 41 0 (3 * u + 1) = lN x1) : ∃ I', ms_G 45 0 [.ref (ms_ad 40 0), .int (nI u), .null] [] (ms_Z q false I J) = some (.inl none, ms_Z q true I' J) ∧ (∀ i, i < 4 → I' 56 0 (70 * m + 4 + i) = ms_t2 (ms_pw 37 x0) (ms_pw 37 x1) i) ∧ (∀ i, i < 70 * m + 4 → I' 56 0 i = ms_po m 0 u 0 4 (I 56 0) i) ∧ I' 40 0 = upd (I 40 0) 20 (nI (m + 1)) ∧ ms_fq [40, 56] I I' := by
  have g0 := ms_pw_lt 37 x0
  have g1 := ms_pw_lt 37 x1
  have p1 := sp_40 (q := q) (J := J) (s := 0) (u := u) (b := 0) (l := 4) hm (by decide) hS
  obtain ⟨I1, e1⟩ : ∃ I1, I1 = ms_u (ms_u I 56 0 (ms_po m 0 u 0 4 (I 56 0))) 40 0 (upd (I 40 0) 20 (nI (m + 1))) := ⟨_, rfl⟩
  rw [← e1] at p1
  have w1 := sp_44 (q := q) (I := I1) (J := J) (at' := 70 * m + 4) (v := ms_pw 37 x0) (by omega) (by omega)
  obtain ⟨I2, e2⟩ : ∃ I2, I2 = ms_u I1 56 0 (upd (upd (I1 56 0) (70 * m + 4) (nI (ms_pw 37 x0))) (70 * m + 4 + 1) (nI (ms_pw 37 x0 / 4294967296))) := ⟨_, rfl⟩
  rw [← e2] at w1
  have w2 := sp_44 (q := q) (I := I2) (J := J) (at' := 70 * m + 4 + 2) (v := ms_pw 37 x1) (by omega) (by omega)
  obtain ⟨I3, e3⟩ : ∃ I3, I3 = ms_u I2 56 0 (upd (upd (I2 56 0) (70 * m + 4 + 2) (nI (ms_pw 37 x1))) (70 * m + 4 + 2 + 1) (nI (ms_pw 37 x1 / 4294967296))) := ⟨_, rfl⟩
  rw [← e3] at w2
  have e56 : I1 56 0 = ms_po m 0 u 0 4 (I 56 0) := by rw [e1, ms_u_r _ _ _ _ (by decide), ms_u_s]
  refine ⟨I3, ?_, ?_, ?_, ?_, ?_⟩
  · simp (disch := omega) only [↓mi_45_0, ↓mi_45_1, ↓mi_45_2, ↓mi_45_3, ↓mi_45_4, ↓mi_45_5, ↓mi_45_8, ↓mi_45_9, ↓mi_45_10, ↓mi_45_11, ↓mi_45_14, ↓mi_45_15, ↓mi_45_18, ↓mi_45_19, ↓mi_45_20, ↓mi_45_21, ↓mi_45_22, ↓mi_45_25, ↓mi_45_28, ↓mi_45_29, ↓mi_45_30, ↓mi_45_31, ↓mi_45_32, ↓mi_45_35, ↓mi_45_36, ↓mi_45_39, ↓mi_45_40, ↓mi_45_41, ↓mi_45_42, ↓mi_45_43, ↓mi_45_44, ↓mi_45_45, ↓mi_45_48, ↓mi_45_51, cond_true, mz_clv, mz_cln, Bool.false_or, Bool.true_or, Bool.or_false, Bool.or_true, if_true, if_false, ite_self, o1_41, pk_mul, na_up, p1, hA, hB, sp_22w, w1, w2]
  · intro i hi
    rw [e3, ms_u_s]
    have : i = 0 ∨ i = 1 ∨ i = 2 ∨ i = 3 := by omega
    rcases this with h | h | h | h
    · subst h
      rw [pk_un (by omega), pk_un (by omega), e2, ms_u_s, pk_un (by omega), Nat.add_zero, pk_us]
      rfl
    · subst h
      rw [pk_un (by omega), pk_un (by omega), e2, ms_u_s, pk_us]
      rfl
    · subst h
      rw [pk_un (by omega), pk_us]
      rfl
    · subst h
      rw [show 70 * m + 4 + 3 = 70 * m + 4 + 2 + 1 by omega, pk_us]
      rfl
  · intro i hi
    rw [e3, ms_u_s, pk_un (by omega), pk_un (by omega), e2, ms_u_s, pk_un (by omega), pk_un (by omega), e56]
  · rw [e3, ms_u_r _ _ _ _ (by decide), e2, ms_u_r _ _ _ _ (by decide), e1, ms_u_s]
  · rw [e3, e2, e1]
    exact fr_tr (fr_tr (fr_tr (fr_u rfl) (fr_u rfl)) (fr_u rfl)) (fr_u rfl)
theorem tg_l {u v a0 : Nat} (hv : v < 8) (ha : a0 + 64 < 4480) {f : Nat → Int32} {l4 l5 l6 l7 l8 l9 l10 l11 l12 : Value} {c13 : Int32} : ∀ d i, d + i = 4 → ms_G 46 248 [.ref (ms_ad 40 0), .int (nI u), .int (nI a0), .int (nI v), l4, l5, l6, l7, l8, l9, l10, l11, l12, .int c13, .int (nI i)] [] (ms_Z q true (ms_u I 56 0 (ms_cq (a0 + 8 * v + 4) i (I 64 0) f)) J) = ms_G 46 283 [.ref (ms_ad 40 0), .int (nI u), .int (nI a0), .int (nI v), l4, l5, l6, l7, l8, l9, l10, l11, l12, .int c13, .int (nI 4)] [] (ms_Z q true (ms_u I 56 0 (ms_cq (a0 + 8 * v + 4) 4 (I 64 0) f)) J)
  | 0, i, hi => by
    have : i = 4 := by omega
    subst this
    simp (disch := omega) only [↓mi_46_248, ↓mi_46_250, ↓mi_46_251, na_le, if_pos]
  | d + 1, i, hi => by
    have ih := tg_l (u := u) hv ha (f := f) (l4 := l4) (l5 := l5) (l6 := l6) (l7 := l7) (l8 := l8) (l9 := l9) (l10 := l10) (l11 := l11) (l12 := l12) (c13 := c13) d (i + 1) (by omega)
    have es := ms_cq_s (a0 + 8 * v + 4) i (I 64 0) f
    rw [mi_46_248]
    simp (disch := omega) only [↓mi_46_250, ↓mi_46_251, ↓mi_46_254, ↓mi_46_255, ↓mi_46_258, ↓mi_46_259, ↓mi_46_261, ↓mi_46_262, ↓mi_46_263, ↓mi_46_264, ↓mi_46_265, ↓mi_46_266, ↓mi_46_268, ↓mi_46_269, ↓mi_46_270, ↓mi_46_273, ↓mi_46_275, ↓mi_46_276, ↓mi_46_277, ↓mi_46_280, cond_true, mz_clv, mz_cln, Bool.false_or, Bool.true_or, Bool.or_false, Bool.or_true, if_true, if_false, ite_self, ms_u_s, ms_u_r, ms_u_i, ms_u_u, o0_56, o0_64, na_le, na_up, pk_mul, if_neg, es]
    exact ih
theorem mb_l {u a0 n t x0 x1 x2 : Nat} {nm0 : Int32} {ky : Nat → Int32} (hu : u < 8) (hn : n ≤ 8) (ht : t ≤ 8) (ht2 : 2 ≤ t) (ha : a0 + 64 < 4480) (l0 : x0 < 2305843009213693951) (l1 : x1 < 2305843009213693951) (l2 : x2 < 2305843009213693951) : ∀ d v I J, d + v = n → I 40 0 1 = nI n → I 40 0 2 = nI t → I 47 0 (3 * u) = nm0 → (∀ k, k < 32 → I 48 0 (32 * u + k) = ky k) → J 41 0 (3 * u) = lN x0 → J 41 0 (3 * u + 1) = lN x1 → J 41 0 (3 * u + 2) = lN x2 → (∀ i, 8 * v ≤ i → i < 64 → I 56 0 (a0 + i) = nI 0) → ∃ I' J', (∀ w l4 l5 l6 l7 l8 l9 l10 l11 l12 l13 l14, w = true → ms_G 46 12 [.ref (ms_ad 40 0), .int (nI u), .int (nI a0), .int (nI v), l4, l5, l6, l7, l8, l9, l10, l11, l12, l13, l14] [] (ms_Z q w I J) = some (.inl none, ms_Z q true I' J')) ∧ (∀ v', v ≤ v' → v' < n → ∀ i, i < 8 → I' 56 0 (a0 + 8 * v' + i) = ms_wb1 u t x0 x1 x2 nm0 ky v' i) ∧ (∀ i, i < a0 + 8 * v ∨ a0 + 8 * n ≤ i → I' 56 0 i = I 56 0 i) ∧ ms_fq [56, 58, 59, 63, 64] I I' ∧ ms_fq [60, 61, 62, 65] J J'
  | 0, v, I, J, hv, hN, hT, hM, hK, hA, hB, hC, h0 => by
    have : v = n := by omega
    subst this
    refine ⟨I, J, ?_, fun v' a b => absurd a (by omega), fun _ _ => rfl, fr_rf, fr_rf⟩
    intro w l4 l5 l6 l7 l8 l9 l10 l11 l12 l13 l14 hw
    subst hw
    simp (disch := omega) only [↓mi_46_12, ↓mi_46_13, ↓mi_46_14, ↓mi_46_17, ↓mi_46_289, hN, na_le, if_pos]
  | d + 1, v, I, J, hv, hN, hT, hM, hK, hA, hB, hC, h0 => by
    by_cases hskip : v = u ∨ ms_bit nm0 v = false
    · obtain ⟨I', J', r, w2, o2, f2, j2⟩ := mb_l (nm0 := nm0) (ky := ky) hu hn ht ht2 ha l0 l1 l2 d (v + 1) I J (by omega) hN hT hM hK hA hB hC (fun i a b => h0 i (by omega) b)
      refine ⟨I', J', ?_, ?_, fun i hi => o2 i (by omega), f2, j2⟩
      · intro w l4 l5 l6 l7 l8 l9 l10 l11 l12 l13 l14 hw
        subst hw
        rw [mi_46_12]
        by_cases hvu : v = u
        · simp (disch := omega) only [↓mi_46_13, ↓mi_46_14, ↓mi_46_17, ↓mi_46_20, ↓mi_46_21, ↓mi_46_22, ↓mi_46_283, ↓mi_46_286, hN, na_le, na_eq, na_up, if_neg, if_pos hvu]
          exact r _ _ _ _ _ _ _ _ _ _ _ _ rfl
        · have hc := hskip.resolve_left hvu
          simp (disch := omega) only [↓mi_46_13, ↓mi_46_14, ↓mi_46_17, ↓mi_46_20, ↓mi_46_21, ↓mi_46_22, ↓mi_46_25, ↓mi_46_26, ↓mi_46_29, ↓mi_46_30, ↓mi_46_31, ↓mi_46_32, ↓mi_46_33, ↓mi_46_34, ↓mi_46_37, ↓mi_46_40, ↓mi_46_283, ↓mi_46_286, cond_true, mz_clv, mz_cln, Bool.false_or, Bool.true_or, Bool.or_false, Bool.or_true, if_true, if_false, ite_self, o0_47, hN, na_le, na_eq, na_up, pk_mul, if_neg, hM, sp_42, hc, if_pos b_f]
          exact r _ _ _ _ _ _ _ _ _ _ _ _ rfl
      · intro v' a b i hi
        by_cases e : v' = v
        · subst e
          rw [o2 _ (by omega)]
          have hz := h0 (8 * v' + i) (by omega) (by omega)
          rw [← Nat.add_assoc] at hz
          rw [hz]
          exact (if_neg fun z => by
            rcases hskip with h | h
            · exact z.1 h
            · rw [h] at z; cases z.2).symm
        · exact w2 v' (by omega) b i hi
    · have hvu : v ≠ u := fun z => hskip (Or.inl z)
      have hc : ms_bit nm0 v = true := by
        cases h : ms_bit nm0 v with
        | true => rfl
        | false => exact absurd (Or.inr h) hskip
      have g1 : ms_sh x2 (ms_cf x2 1 u) (v + 1) t < 2305843009213693951 := Nat.mod_lt _ (by decide)
      have g2 : ms_sh x0 (ms_cf x2 0 u) (v + 1) t < 2305843009213693951 := Nat.mod_lt _ (by decide)
      have k1 := hK (4 * v + 2) (by omega)
      have k2 := hK (4 * v + 3) (by omega)
      rw [← Nat.add_assoc] at k1 k2
      have hbk : ms_bk x1 ky v < 2305843009213693951 := ms_pw_lt _ _
      have eb : ms_pw (ms_num (ky (4 * v + 2)) (ky (4 * v + 3))) x1 = ms_bk x1 ky v := rfl
      obtain ⟨K, eK⟩ : ∃ K, K = ms_bk x1 ky v := ⟨_, rfl⟩
      rw [← eK] at eb hbk
      obtain ⟨I1, r1, f1⟩ := sp_34 (q := q) (I := I) (J := J) (u := u) (wh := 1) (v := v) (seed := x2) (a := x2) (t := t) hu (by decide) (by omega) ht ht2 l2 l2 hT hC (by rw [if_neg (by decide)]; exact hC)
      obtain ⟨s1, es1⟩ : ∃ s1, s1 = ms_sh x2 (ms_cf x2 1 u) (v + 1) t := ⟨_, rfl⟩
      obtain ⟨s2, es2⟩ : ∃ s2, s2 = ms_sh x0 (ms_cf x2 0 u) (v + 1) t := ⟨_, rfl⟩
      obtain ⟨I2, r2, f2⟩ := sp_34 (q := q) (I := I1) (J := J) (u := u) (wh := 0) (v := v) (seed := x2) (a := x0) (t := t) hu (by decide) (by omega) ht ht2 l2 l0 (by rw [f1 40 0 (by decide) (by decide)]; exact hT) hC (by rw [if_pos rfl]; exact hA)
      rw [← es1] at r1 g1
      rw [← es2] at r2 g2
      have m3 := sp_26 (q := q) (I := I2) (J := J) (v := K) (n := nI 1) (a := nI u) (b := nI v) (c := nI 1) hbk
      obtain ⟨I3, e3⟩ : ∃ I3, I3 = ms_mxI I2 K (nI 1) (nI u) (nI v) (nI 1) := ⟨_, rfl⟩
      rw [← e3] at m3
      have b3 : ∀ i, i < 16 → I3 59 0 i = ms_blk K (nI 1) (nI u) (nI v) (nI 1) i := fun i hi => by rw [e3, mx_word hi]
      have q1 : lN s1 >>> ((nI 32).toInt64 &&& 63) = lN (s1 / 4294967296) := la_shr (by omega) (by decide)
      have q2 : lN s2 >>> ((nI 32).toInt64 &&& 63) = lN (s2 / 4294967296) := la_shr (by omega) (by decide)
      obtain ⟨c0, d0⟩ : ∃ c, c = nI s1 ^^^ ms_blk K (nI 1) (nI u) (nI v) (nI 1) 0 := ⟨_, rfl⟩
      obtain ⟨c1, d1⟩ : ∃ c, c = nI (s1 / 4294967296) ^^^ ms_blk K (nI 1) (nI u) (nI v) (nI 1) 1 := ⟨_, rfl⟩
      obtain ⟨c2, d2⟩ : ∃ c, c = nI s2 ^^^ ms_blk K (nI 1) (nI u) (nI v) (nI 1) 2 := ⟨_, rfl⟩
      obtain ⟨c3, d3⟩ : ∃ c, c = nI (s2 / 4294967296) ^^^ ms_blk K (nI 1) (nI u) (nI v) (nI 1) 3 := ⟨_, rfl⟩
      obtain ⟨I4, J4, r4, t4, f4, j4⟩ := sp_31 (q := q) (I := I3) (J := J) (v := K) (a := nI u) (b := nI v) (c0 := c0) (c1 := c1) (c2 := c2) (c3 := c3) hbk
      obtain ⟨f5, ef5⟩ : ∃ f, f = upd (upd (upd (upd (I4 56 0) (a0 + 8 * v) c0) (a0 + 8 * v + 1) c1) (a0 + 8 * v + 2) c2) (a0 + 8 * v + 3) c3 := ⟨_, rfl⟩
      obtain ⟨I5, e5⟩ : ∃ I5, I5 = ms_u I4 56 0 (ms_cq (a0 + 8 * v + 4) 4 (I4 64 0) f5) := ⟨_, rfl⟩
      have fr5 : ms_fq [56, 58, 59, 63, 64] I I5 := by
        rw [e5]
        refine fr_tr (fr_tr (fr_tr (fr_tr (fr_58 f1) (fr_58 f2)) ?_) (fr_31 f4)) (fr_u rfl)
        rw [e3]
        exact fr_mx
      have e56 : I4 56 0 = I 56 0 := by rw [f4 56 0 (by decide) (by decide) (by decide) (by decide), e3, mx_else (by decide) (by decide), f2 56 0 (by decide) (by decide), f1 56 0 (by decide) (by decide)]
      have o5 : ∀ i, i < a0 + 8 * v ∨ a0 + 8 * v + 8 ≤ i → I5 56 0 i = I 56 0 i := fun i hi => by
        rw [e5, ms_u_s]
        unfold ms_cq
        rw [if_neg (by omega), ef5, pk_un (by omega), pk_un (by omega), pk_un (by omega), pk_un (by omega), e56]
      obtain ⟨I', J', r, w2, o2, f', j'⟩ := mb_l (nm0 := nm0) (ky := ky) hu hn ht ht2 ha l0 l1 l2 d (v + 1) I5 J4 (by omega) (by rw [fr_at fr5 40 rfl 0]; exact hN) (by rw [fr_at fr5 40 rfl 0]; exact hT) (by rw [fr_at fr5 47 rfl 0]; exact hM) (by rw [fr_at fr5 48 rfl 0]; exact hK) (by rw [fr_at (fr_31J j4) 41 rfl 0]; exact hA) (by rw [fr_at (fr_31J j4) 41 rfl 0]; exact hB) (by rw [fr_at (fr_31J j4) 41 rfl 0]; exact hC) (fun i a b => by rw [o5 _ (by omega)]; exact h0 i (by omega) b)
      refine ⟨I', J', ?_, ?_, fun i hi => by rw [o2 i (by omega), o5 i (by omega)], fr_tr fr5 f', fr_tr (fr_31J j4) j'⟩
      · intro w l4 l5 l6 l7 l8 l9 l10 l11 l12 l13 l14 hw
        subst hw
        have hI := tg_l (q := q) (I := I4) (J := J4) (u := u) (v := v) (a0 := a0) (by omega) ha (f := f5) (l4 := .long (lN K)) (l5 := .null) (l6 := .long (lN s1)) (l7 := .null) (l8 := .long (lN s2)) (l9 := .null) (l10 := .int c0) (l11 := .int c1) (l12 := .int c2) (c13 := c3) 4 0 rfl
        rw [ms_cq_0, ← e5] at hI
        rw [mi_46_12]
        simp (disch := omega) only [↓mi_46_13, ↓mi_46_14, ↓mi_46_17, ↓mi_46_20, ↓mi_46_21, ↓mi_46_22, ↓mi_46_25, ↓mi_46_26, ↓mi_46_29, ↓mi_46_30, ↓mi_46_31, ↓mi_46_32, ↓mi_46_33, ↓mi_46_34, ↓mi_46_37, ↓mi_46_40, ↓mi_46_43, ↓mi_46_44, ↓mi_46_45, ↓mi_46_48, ↓mi_46_50, ↓mi_46_51, ↓mi_46_52, ↓mi_46_53, ↓mi_46_54, ↓mi_46_55, ↓mi_46_56, ↓mi_46_57, ↓mi_46_58, ↓mi_46_59, ↓mi_46_60, ↓mi_46_63, ↓mi_46_65, ↓mi_46_66, ↓mi_46_67, ↓mi_46_68, ↓mi_46_69, ↓mi_46_70, ↓mi_46_71, ↓mi_46_72, ↓mi_46_73, ↓mi_46_74, ↓mi_46_75, ↓mi_46_78, ↓mi_46_79, ↓mi_46_80, ↓mi_46_81, ↓mi_46_82, ↓mi_46_83, ↓mi_46_84, ↓mi_46_87, ↓mi_46_89, ↓mi_46_90, ↓mi_46_91, ↓mi_46_92, ↓mi_46_93, ↓mi_46_96, ↓mi_46_98, ↓mi_46_99, ↓mi_46_100, ↓mi_46_101, ↓mi_46_102, ↓mi_46_105, ↓mi_46_107, ↓mi_46_108, ↓mi_46_110, ↓mi_46_111, ↓mi_46_112, ↓mi_46_113, ↓mi_46_114, cond_true, mz_clv, mz_cln, Bool.false_or, Bool.true_or, Bool.or_false, Bool.or_true, if_true, if_false, ite_self, o0_47, o0_48, o1_41, hN, na_le, na_eq, na_up, pk_mul, if_neg, hM, sp_42, hc, if_neg b_t, k1, k2, hB, sp_33, eb, r1, r2, m3]
        simp (disch := omega) only [↓mi_46_117, ↓mi_46_119, ↓mi_46_120, ↓mi_46_121, ↓mi_46_124, ↓mi_46_125, ↓mi_46_126, ↓mi_46_127, ↓mi_46_129, ↓mi_46_131, ↓mi_46_133, ↓mi_46_134, ↓mi_46_135, ↓mi_46_136, ↓mi_46_139, ↓mi_46_140, ↓mi_46_141, ↓mi_46_142, ↓mi_46_144, ↓mi_46_146, ↓mi_46_147, ↓mi_46_148, ↓mi_46_151, ↓mi_46_152, ↓mi_46_153, ↓mi_46_154, ↓mi_46_156, ↓mi_46_158, ↓mi_46_160, ↓mi_46_161, ↓mi_46_162, ↓mi_46_163, ↓mi_46_166, ↓mi_46_167, ↓mi_46_168, ↓mi_46_169, ↓mi_46_171, ↓mi_46_172, ↓mi_46_174, ↓mi_46_175, ↓mi_46_176, ↓mi_46_178, ↓mi_46_180, ↓mi_46_182, ↓mi_46_184, cond_true, mz_clv, mz_cln, Bool.false_or, Bool.true_or, Bool.or_false, Bool.or_true, if_true, if_false, ite_self, o0_59, b3, lN_i, q1, q2, ← d0, ← d1, ← d2, ← d3, r4]
        simp (disch := omega) only [↓mi_46_187, ↓mi_46_188, ↓mi_46_191, ↓mi_46_192, ↓mi_46_194, ↓mi_46_195, ↓mi_46_196, ↓mi_46_197, ↓mi_46_199, ↓mi_46_200, ↓mi_46_201, ↓mi_46_204, ↓mi_46_205, ↓mi_46_207, ↓mi_46_208, ↓mi_46_209, ↓mi_46_210, ↓mi_46_211, ↓mi_46_212, ↓mi_46_214, ↓mi_46_215, ↓mi_46_216, ↓mi_46_219, ↓mi_46_220, ↓mi_46_222, ↓mi_46_223, ↓mi_46_224, ↓mi_46_225, ↓mi_46_226, ↓mi_46_227, ↓mi_46_229, ↓mi_46_230, ↓mi_46_231, ↓mi_46_234, ↓mi_46_235, ↓mi_46_237, ↓mi_46_238, ↓mi_46_239, ↓mi_46_240, ↓mi_46_241, ↓mi_46_242, ↓mi_46_244, ↓mi_46_245, ↓mi_46_246, cond_true, mz_clv, mz_cln, Bool.false_or, Bool.true_or, Bool.or_false, Bool.or_true, if_true, if_false, ite_self, ms_u_s, ms_u_r, ms_u_i, ms_u_u, o0_56, pk_mul, na_up, ← ef5]
        rw [hI]
        simp (disch := omega) only [↓mi_46_283, ↓mi_46_286, na_up]
        exact r _ _ _ _ _ _ _ _ _ _ _ _ rfl
      · intro v' a b i hi
        by_cases e : v' = v
        · subst e
          rw [o2 _ (by omega), e5, ms_u_s]
          unfold ms_wb1
          rw [if_pos ⟨hvu, hc⟩, ← es1, ← es2, ← eK]
          unfold ms_box ms_cq
          by_cases hi4 : i < 4
          · rw [if_pos hi4, if_neg (by omega), ef5]
            have : i = 0 ∨ i = 1 ∨ i = 2 ∨ i = 3 := by omega
            rcases this with h | h | h | h
            · subst h
              rw [pk_un (by omega), pk_un (by omega), pk_un (by omega), Nat.add_zero, pk_us, d0]
              rfl
            · subst h
              rw [pk_un (by omega), pk_un (by omega), pk_us, d1]
              rfl
            · subst h
              rw [pk_un (by omega), pk_us, d2]
              rfl
            · subst h
              rw [pk_us, d3]
              rfl
          · rw [if_neg hi4, if_pos (by omega), show a0 + 8 * v' + i - (a0 + 8 * v' + 4) = i - 4 by omega, t4 (i - 4) (by omega), d0, d1, d2, d3]
            rfl
        · exact w2 v' (by omega) b i hi
theorem sp_46 {u m n t x0 x1 x2 : Nat} {nm0 : Int32} {ky : Nat → Int32} (hu : u < 8) (hn : n ≤ 8) (ht : t ≤ 8) (ht2 : 2 ≤ t) (hm : m < 56) (l0 : x0 < 2305843009213693951) (l1 : x1 < 2305843009213693951) (l2 : x2 < 2305843009213693951) (hS : I 40 0 20 = nI m) (hN : I 40 0 1 = nI n) (hT : I 40 0 2 = nI t) (hM : I 47 0 (3 * u) = nm0) (hK : ∀ k, k < 32 → I 48 0 (32 * u + k) = ky k) (hA : J 41 0 (3 * u) = lN x0) (hB : J 41 0 (3 * u + 1) = lN x1) (hC : J 41 0 (3 * u + 2) = lN x2) (hb : ∀ v, n ≤ v → v < 8 → ms_bit nm0 v = false) : ∃ I' J', ms_G 46 0 [.ref (ms_ad 40 0), .int (nI u), .null, .null, .null, .null, .null, .null, .null, .null, .null, .null, .null, .null, .null] [] (ms_Z q false I J) = some (.inl none, ms_Z q true I' J') ∧ (∀ i, i < 64 → I' 56 0 (70 * m + 4 + i) = ms_wb1 u t x0 x1 x2 nm0 ky (i / 8) (i % 8)) ∧ (∀ i, i < 70 * m + 4 → I' 56 0 i = ms_po m 1 u 0 64 (I 56 0) i) ∧ I' 40 0 = upd (I 40 0) 20 (nI (m + 1)) ∧ ms_fq [40, 56, 58, 59, 63, 64] I I' ∧ ms_fq [60, 61, 62, 65] J J' := by
  have p1 := sp_40 (q := q) (J := J) (s := 1) (u := u) (b := 0) (l := 64) hm (by decide) hS
  obtain ⟨I1, e1⟩ : ∃ I1, I1 = ms_u (ms_u I 56 0 (ms_po m 1 u 0 64 (I 56 0))) 40 0 (upd (I 40 0) 20 (nI (m + 1))) := ⟨_, rfl⟩
  rw [← e1] at p1
  have e56 : I1 56 0 = ms_po m 1 u 0 64 (I 56 0) := by rw [e1, ms_u_r _ _ _ _ (by decide), ms_u_s]
  have e40 : I1 40 0 = upd (I 40 0) 20 (nI (m + 1)) := by rw [e1, ms_u_s]
  have fr1 : ms_fq [40, 56] I I1 := by rw [e1]; exact fr_tr (fr_u rfl) (fr_u rfl)
  obtain ⟨I2, J2, r2, w2, o2, f2, j2⟩ := mb_l (q := q) (nm0 := nm0) (ky := ky) hu hn ht ht2 (show 70 * m + 4 + 64 < 4480 by omega) l0 l1 l2 n 0 I1 J rfl (by rw [e40, pk_un (by decide)]; exact hN) (by rw [e40, pk_un (by decide)]; exact hT) (by rw [fr_at fr1 47 rfl 0]; exact hM) (by rw [fr_at fr1 48 rfl 0]; exact hK) hA hB hC (fun i _ hi => by rw [e56, po_z (by omega)])
  refine ⟨I2, J2, ?_, ?_, ?_, ?_, ?_, j2⟩
  · simp (disch := omega) only [↓mi_46_0, ↓mi_46_1, ↓mi_46_2, ↓mi_46_3, ↓mi_46_4, ↓mi_46_6, ↓mi_46_9, ↓mi_46_10, ↓mi_46_11, cond_true, mz_clv, mz_cln, Bool.false_or, Bool.true_or, Bool.or_false, Bool.or_true, if_true, if_false, ite_self, p1]
    exact r2 _ _ _ _ _ _ _ _ _ _ _ _ rfl
  · intro i hi
    by_cases h : i / 8 < n
    · have := w2 (i / 8) (by omega) h (i % 8) (by omega)
      rw [show 70 * m + 4 + 8 * (i / 8) + i % 8 = 70 * m + 4 + i by omega] at this
      exact this
    · rw [o2 _ (by omega), e56, po_z (by omega)]
      exact (if_neg fun z => by rw [hb _ (by omega) (by omega)] at z; cases z.2).symm
  · intro i hi
    rw [o2 _ (by omega), e56]
  · rw [fr_at f2 40 rfl 0, e40]
  · exact fr_tr (fr_up fr1 rfl) (fr_up f2 rfl)
end Mod
