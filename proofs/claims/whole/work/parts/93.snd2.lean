/-! WHAT A PHONE SENDS: masked words and shares. -/
theorem am_v {s : Bool} {f m : Nat → Int32} {i : Nat} (h : i < 4) : ms_am s 4 f m i = f i + (if s = true then m i else - m i) := if_pos h
theorem ok4_cg {T W W' : Nat → Int32} (h : ∀ i, i < 4 → W i = W' i) : ms_ok4 T W = ms_ok4 T W' := by
  have e0 := h 0 (by decide)
  have e1 := h 1 (by decide)
  have e2 := h 2 (by decide)
  have e3 := h 3 (by decide)
  simp only [ms_ok4, e0, e1, e2, e3]
section Snd2
variable {q : Nat × Nat} {w : Bool} {I : ms_i} {J : ms_j} {σ : ms_M}
theorem wm_l {u p x0 x2 : Nat} {inp : Nat → Int32} {nm1 : Int32} {ky : Nat → Int32} (hu : u < 8) (hp : p < 56) (hl : ms_wl p = 4) (h0 : x0 < 2305843009213693951) (hA : J 32 u 0 = lN x0) : ∀ m v I, m + v = 8 → ms_Z6 I → I 36 u 1 = nm1 → (∀ k, k < 32 → I 37 u (1 + k) = ky k) → (∀ k, k < 4 → I 18 p k = ms_w2 u x0 x2 inp nm1 ky k v) → ∃ I', ms_G 101 30 [.ref (ms_ad 31 u), .ref (ms_ad 18 p), .ref (ms_ad 4 0), .int (nI v)] [] (ms_Z q true I J) = some (.inl none, ms_Z q true I' J) ∧ (∀ k, k < 4 → I' 18 p k = ms_w2 u x0 x2 inp nm1 ky k 8) ∧ ms_fX I I' 18 p ∧ ms_Z6 I'
  | 0, v, I, hv, hz, hN, hK, hW => by
    have : v = 8 := by omega
    subst this
    refine ⟨I, ?_, hW, fun _ _ _ _ _ _ _ => rfl, hz⟩
    simp (disch := omega) only [↓mi_101_30, ↓mi_101_31, ↓mi_101_33, ↓mi_101_89, na_le, if_pos]
  | m + 1, v, I, hv, hz, hN, hK, hW => by
    have eW : ∀ k, ms_w2 u x0 x2 inp nm1 ky k (v + 1) = if v ≠ u ∧ ms_bit nm1 v = true then ms_w2 u x0 x2 inp nm1 ky k v + (if u < v then ms_blk (ms_pw (ms_num (ky (4 * v)) (ky (4 * v + 1))) x0) (nI 0) (nI 1) (nI 0) (nI 0) k else - ms_blk (ms_pw (ms_num (ky (4 * v)) (ky (4 * v + 1))) x0) (nI 0) (nI 1) (nI 0) (nI 0) k) else ms_w2 u x0 x2 inp nm1 ky k v := fun _ => rfl
    by_cases hvu : v = u
    · obtain ⟨I', r, a, b, c⟩ := wm_l hu hp hl h0 hA m (v + 1) I (by omega) hz hN hK (fun k hk => by rw [eW, if_neg (fun z => z.1 hvu)]; exact hW k hk)
      refine ⟨I', ?_, a, b, c⟩
      rw [mi_101_30]
      simp (disch := omega) only [↓mi_101_31, ↓mi_101_33, ↓mi_101_36, ↓mi_101_37, ↓mi_101_38, ↓mi_101_41, ↓mi_101_83, ↓mi_101_86, sv_3, na_le, na_eq, na_up, if_neg, if_pos hvu]
      exact r
    · cases hc : ms_bit nm1 v with
      | false =>
        obtain ⟨I', r, a, b, c⟩ := wm_l hu hp hl h0 hA m (v + 1) I (by omega) hz hN hK (fun k hk => by rw [eW, if_neg (fun z => by rw [hc] at z; cases z.2)]; exact hW k hk)
        refine ⟨I', ?_, a, b, c⟩
        rw [mi_101_30]
        simp (disch := omega) only [↓mi_101_31, ↓mi_101_33, ↓mi_101_36, ↓mi_101_37, ↓mi_101_38, ↓mi_101_41, ↓mi_101_44, ↓mi_101_45, ↓mi_101_48, ↓mi_101_49, ↓mi_101_50, ↓mi_101_51, ↓mi_101_54, ↓mi_101_83, ↓mi_101_86, cond_true, mz_clv, mz_cln, Bool.false_or, Bool.true_or, Bool.or_false, Bool.or_true, if_true, if_false, ite_self, o0_36, sv_3, na_le, na_eq, na_up, if_neg, hN, sp_15, hc, if_pos b_f]
        exact r
      | true =>
        obtain ⟨x, ex⟩ : ∃ x, x = ms_pw (ms_num (ky (4 * v)) (ky (4 * v + 1))) x0 := ⟨_, rfl⟩
        have hx : x < 2305843009213693951 := by rw [ex]; exact ms_pw_lt _ _
        have ag := sp_104 (q := q) (I := I) (J := J) (u := u) (v := v) (k := 0) (s := x0) hu (by omega) (by decide) h0 hA
        rw [show 1 + 4 * v + 2 * 0 = 1 + 4 * v by omega, show 1 + 4 * v + 1 = 1 + (4 * v + 1) by omega, hK _ (by omega), hK _ (by omega), ← ex] at ag
        have am := fun s => sp_70 (q := q) (I := I) (J := J) (v := x) (a := nI 1) (b := nI 0) (r := 18) (u := p) hx (by decide) (by decide) (fun i hi => o0_18 hp (by omega)) s
        obtain ⟨I1, eI1⟩ : ∃ I1, I1 = ms_u (ms_bkI I x (nI 0) (nI 1) (nI 0) (nI 0)) 18 p (ms_am (decide (u < v)) 4 (I 18 p) (ms_bkI I x (nI 0) (nI 1) (nI 0) (nI 0) 7 0)) := ⟨_, rfl⟩
        have am1 := am (decide (u < v))
        rw [← eI1] at am1
        have fr : ∀ r' u', r' ≠ 6 → r' ≠ 7 → (r' ≠ 18 ∨ u' ≠ p) → I1 r' u' = I r' u' := fun r' u' a6 a7 hne => by
          rw [eI1, show ms_u (ms_bkI I x (nI 0) (nI 1) (nI 0) (nI 0)) 18 p (ms_am (decide (u < v)) 4 (I 18 p) (ms_bkI I x (nI 0) (nI 1) (nI 0) (nI 0) 7 0)) r' u' = ms_bkI I x (nI 0) (nI 1) (nI 0) (nI 0) r' u' from if_neg fun z => by rcases hne with h | h <;> omega, bk_else a6 a7]
        have hw1 : ∀ k, k < 4 → I1 18 p k = ms_w2 u x0 x2 inp nm1 ky k (v + 1) := fun k hk => by
          rw [eW, if_pos ⟨hvu, hc⟩, eI1, ms_u_s, am_v hk, bk_word hz (by omega), hW k hk, ← ex]
          by_cases h : u < v
          · rw [if_pos h, if_pos (decide_eq_true h)]
          · rw [if_neg h, if_neg (by rw [decide_eq_false h]; decide)]
        have z1 : ms_Z6 I1 := fun k a b => by
          rw [eI1, ms_u_r _ _ _ _ (by decide)]
          exact bk_keep hz k a b
        obtain ⟨I', r, a, b, c⟩ := wm_l hu hp hl h0 hA m (v + 1) I1 (by omega) z1 (by rw [fr 36 u (by decide) (by decide) (Or.inl (by decide))]; exact hN) (by rw [fr 37 u (by decide) (by decide) (Or.inl (by decide))]; exact hK) hw1
        refine ⟨I', ?_, a, fun r' u' a6 a7 a12 a13 hne => by rw [b r' u' a6 a7 a12 a13 hne, fr r' u' a6 a7 hne], c⟩
        rw [mi_101_30]
        by_cases h : u < v
        · rw [decide_eq_true h, show ms_b true = nI 1 from rfl] at am1
          simp (disch := omega) only [↓mi_101_31, ↓mi_101_33, ↓mi_101_36, ↓mi_101_37, ↓mi_101_38, ↓mi_101_41, ↓mi_101_44, ↓mi_101_45, ↓mi_101_48, ↓mi_101_49, ↓mi_101_50, ↓mi_101_51, ↓mi_101_54, ↓mi_101_57, ↓mi_101_58, ↓mi_101_59, ↓mi_101_60, ↓mi_101_61, ↓mi_101_64, ↓mi_101_67, ↓mi_101_68, ↓mi_101_71, ↓mi_101_72, ↓mi_101_73, ↓mi_101_74, ↓mi_101_75, ↓mi_101_78, ↓mi_101_79, ↓mi_101_80, ↓mi_101_83, ↓mi_101_86, cond_true, mz_clv, mz_cln, Bool.false_or, Bool.true_or, Bool.or_false, Bool.or_true, if_true, if_false, ite_self, o0_36, sv_3, na_le, na_eq, na_up, if_neg, hN, sp_15, hc, if_neg b_t, ag, am1]
          exact r
        · rw [decide_eq_false h, show ms_b false = nI 0 from rfl] at am1
          simp (disch := omega) only [↓mi_101_31, ↓mi_101_33, ↓mi_101_36, ↓mi_101_37, ↓mi_101_38, ↓mi_101_41, ↓mi_101_44, ↓mi_101_45, ↓mi_101_48, ↓mi_101_49, ↓mi_101_50, ↓mi_101_51, ↓mi_101_54, ↓mi_101_57, ↓mi_101_58, ↓mi_101_59, ↓mi_101_60, ↓mi_101_61, ↓mi_101_64, ↓mi_101_67, ↓mi_101_68, ↓mi_101_71, ↓mi_101_72, ↓mi_101_73, ↓mi_101_74, ↓mi_101_75, ↓mi_101_78, ↓mi_101_79, ↓mi_101_80, ↓mi_101_83, ↓mi_101_86, cond_true, mz_clv, mz_cln, Bool.false_or, Bool.true_or, Bool.or_false, Bool.or_true, if_true, if_false, ite_self, o0_36, sv_3, na_le, na_eq, na_up, if_neg, if_pos, hN, sp_15, hc, if_neg b_t, ag, am1]
          exact r
theorem sp_101 {u p x0 x2 : Nat} {inp : Nat → Int32} {nm1 : Int32} {ky : Nat → Int32} (hu : u < 8) (hp : p < 56) (hl : ms_wl p = 4) (h0 : x0 < 2305843009213693951) (h2 : x2 < 2305843009213693951) (hz : ms_Z6 I) (hA : J 32 u 0 = lN x0) (hC : J 32 u 2 = lN x2) (hI : ∀ k, k < 4 → I 33 u k = inp k) (hN : I 36 u 1 = nm1) (hK : ∀ k, k < 32 → I 37 u (1 + k) = ky k) : ∃ I', ms_G 101 0 [.ref (ms_ad 31 u), .ref (ms_ad 18 p), .ref (ms_ad 4 0), .null] [] (ms_Z q false I J) = some (.inl none, ms_Z q true I' J) ∧ (∀ k, k < 4 → I' 18 p k = ms_w2 u x0 x2 inp nm1 ky k 8) ∧ ms_fX I I' 18 p ∧ ms_Z6 I' := by
  have hc : mo_c q.1 33 u 18 p 0 0 4 = true := mo_c_ok rfl rfl hu hp (show 0 + 4 ≤ 4 by decide) (show 0 + 4 ≤ ms_wl p by omega) (by decide) (by decide)
  obtain ⟨I1, eI1⟩ : ∃ I1, I1 = ms_u I 18 p (va_cpy (I 33 u) (I 18 p) 0 0 4) := ⟨_, rfl⟩
  obtain ⟨I2, eI2⟩ : ∃ I2, I2 = ms_u (ms_bkI I1 x2 (nI 0) (nI 0) (nI u) (nI 0)) 18 p (ms_am true 4 (I1 18 p) (ms_bkI I1 x2 (nI 0) (nI 0) (nI u) (nI 0) 7 0)) := ⟨_, rfl⟩
  have f1 : ∀ r' u', (r' ≠ 18 ∨ u' ≠ p) → I1 r' u' = I r' u' := fun r' u' hne => by
    rw [eI1]
    exact if_neg fun z => by rcases hne with h | h <;> omega
  have z1 : ms_Z6 I1 := fun k a b => by rw [f1 6 0 (Or.inl (by decide))]; exact hz k a b
  have f2 : ∀ r' u', r' ≠ 6 → r' ≠ 7 → (r' ≠ 18 ∨ u' ≠ p) → I2 r' u' = I r' u' := fun r' u' a6 a7 hne => by
    rw [eI2, show ms_u (ms_bkI I1 x2 (nI 0) (nI 0) (nI u) (nI 0)) 18 p (ms_am true 4 (I1 18 p) (ms_bkI I1 x2 (nI 0) (nI 0) (nI u) (nI 0) 7 0)) r' u' = ms_bkI I1 x2 (nI 0) (nI 0) (nI u) (nI 0) r' u' from if_neg fun z => by rcases hne with h | h <;> omega, bk_else a6 a7, f1 r' u' hne]
  have z2 : ms_Z6 I2 := fun k a b => by
    rw [eI2, ms_u_r _ _ _ _ (by decide)]
    exact bk_keep z1 k a b
  have w2 : ∀ k, k < 4 → I2 18 p k = ms_w2 u x0 x2 inp nm1 ky k 0 := fun k hk => by
    rw [eI2, ms_u_s, am_v hk, bk_word z1 (by omega), if_pos rfl, eI1, ms_u_s, pk_cpy_in (by omega) (by omega), show 0 + (k - 0) = k by omega, hI k hk]
    rfl
  have am := sp_70 (q := q) (I := I1) (J := J) (v := x2) (a := nI 0) (b := nI u) (r := 18) (u := p) h2 (by decide) (by decide) (fun i hi => o0_18 hp (by omega)) true
  rw [← eI2, show ms_b true = nI 1 from rfl] at am
  obtain ⟨I', r, a, b, c⟩ := wm_l (q := q) hu hp hl h0 hA 8 0 I2 rfl z2 (by rw [f2 36 u (by decide) (by decide) (Or.inl (by decide))]; exact hN) (by rw [f2 37 u (by decide) (by decide) (Or.inl (by decide))]; exact hK) w2
  refine ⟨I', ?_, a, fun r' u' a6 a7 a12 a13 hne => by rw [b r' u' a6 a7 a12 a13 hne, f2 r' u' a6 a7 hne], c⟩
  simp (disch := omega) only [↓mi_101_0, ↓mi_101_1, ↓mi_101_4, ↓mi_101_5, ↓mi_101_6, ↓mi_101_7, ↓mi_101_8, cond_true, mz_clv, mz_cln, Bool.false_or, Bool.true_or, Bool.or_false, Bool.or_true, if_true, if_false, ite_self, hc]
  rw [← eI1]
  simp (disch := omega) only [↓mi_101_11, ↓mi_101_12, ↓mi_101_13, ↓mi_101_14, ↓mi_101_15, ↓mi_101_18, ↓mi_101_19, ↓mi_101_20, ↓mi_101_21, ↓mi_101_22, ↓mi_101_25, ↓mi_101_28, ↓mi_101_29, cond_true, mz_clv, mz_cln, Bool.false_or, Bool.true_or, Bool.or_false, Bool.or_true, if_true, if_false, ite_self, o1_32, sv_3, hC, am]
  exact r
/-- a share is given -/
theorem sp_103 {u p v a b : Nat} {nm2 : Int32} {T : Nat → Int32} (hu : u < 8) (hp : p < 56) (hl : ms_wl p = 17) (hv : v < 8) (hN : I 36 u 2 = nm2) (hT : ∀ j, j < 4 → I 39 u j = T j) (ha : a < 2 ^ v) (hb : b < 2 ^ v) (hA : I 31 u 11 = nI a) (hB : I 31 u 12 = nI b) : ∃ I', ms_G 103 0 [.ref (ms_ad 31 u), .ref (ms_ad 18 p), .int (nI v)] [] (ms_Z q false I J) = some (.inl none, ms_Z q true I' J) ∧ (∀ i, i < 2 → I' 18 p (1 + 2 * v + i) = T ((if ms_bit nm2 v = true then 0 else 2) + i)) ∧ (∀ i, i < 1 + 2 * v ∨ 3 + 2 * v ≤ i → I' 18 p i = I 18 p i) ∧ I' 31 u 11 = nI (if ms_bit nm2 v = true then a + 2 ^ v else a) ∧ I' 31 u 12 = nI (if ms_bit nm2 v = true then b else b + 2 ^ v) ∧ (∀ k, k ≠ 11 → k ≠ 12 → I' 31 u k = I 31 u k) ∧ (∀ r' u', (r' ≠ 18 ∨ u' ≠ p) → (r' ≠ 31 ∨ u' ≠ u) → I' r' u' = I r' u') := by
  have e1 := na_or1 (h := a) (v := v) (by omega) ha
  have e2 := na_or1 (h := b) (v := v) (by omega) hb
  cases hc : ms_bit nm2 v with
  | true =>
    have hcp : mo_c q.1 39 u 18 p 0 (1 + 2 * v) 2 = true := mo_c_ok rfl rfl hu hp (show 0 + 2 ≤ 4 by decide) (show 1 + 2 * v + 2 ≤ ms_wl p by omega) (by decide) (by omega)
    refine ⟨ms_u (ms_u I 31 u (upd (I 31 u) 11 (nI (a + 2 ^ v)))) 18 p (va_cpy (I 39 u) (I 18 p) 0 (1 + 2 * v) 2), ?_, ?_, ?_, ?_, ?_, ?_, ?_⟩
    · simp (disch := omega) only [↓mi_103_0, ↓mi_103_1, ↓mi_103_4, ↓mi_103_5, ↓mi_103_6, ↓mi_103_7, ↓mi_103_10, ↓mi_103_13, ↓mi_103_14, ↓mi_103_15, ↓mi_103_18, ↓mi_103_19, ↓mi_103_20, ↓mi_103_21, ↓mi_103_22, ↓mi_103_25, ↓mi_103_26, ↓mi_103_29, ↓mi_103_30, ↓mi_103_31, ↓mi_103_32, ↓mi_103_33, ↓mi_103_34, ↓mi_103_35, ↓mi_103_36, ↓mi_103_37, ↓mi_103_40, ↓mi_103_70, cond_true, mz_clv, mz_cln, Bool.false_or, Bool.true_or, Bool.or_false, Bool.or_true, if_true, if_false, ite_self, ms_u_s, ms_u_r, ms_u_i, ms_u_u, o0_36, hN, sp_15, hc, if_neg b_t, hA, e1, na_up, pk_mul, hcp]
    · intro i hi
      rw [ms_u_s, pk_cpy_in (by omega) (by omega), show 0 + (1 + 2 * v + i - (1 + 2 * v)) = i by omega, hT i (by omega), if_pos rfl, Nat.zero_add]
    · intro i hi
      rw [ms_u_s, pk_cpy_out (by omega)]
    · rw [ms_u_r _ _ _ _ (by decide), ms_u_s, pk_us, if_pos rfl]
    · rw [ms_u_r _ _ _ _ (by decide), ms_u_s, pk_un (by decide), if_pos rfl, hB]
    · intro k k1 k2
      rw [ms_u_r _ _ _ _ (by decide), ms_u_s, pk_un k1]
    · intro r' u' n1 n2
      rw [show ∀ (I : ms_i) f, ms_u I 18 p f r' u' = I r' u' from fun I f => if_neg fun z => by rcases n1 with h | h <;> omega]
      exact if_neg fun z => by rcases n2 with h | h <;> omega
  | false =>
    have hcp : mo_c q.1 39 u 18 p 2 (1 + 2 * v) 2 = true := mo_c_ok rfl rfl hu hp (show 2 + 2 ≤ 4 by decide) (show 1 + 2 * v + 2 ≤ ms_wl p by omega) (by decide) (by omega)
    have hf : ¬ (false = true) := Bool.false_ne_true
    refine ⟨ms_u (ms_u I 31 u (upd (I 31 u) 12 (nI (b + 2 ^ v)))) 18 p (va_cpy (I 39 u) (I 18 p) 2 (1 + 2 * v) 2), ?_, ?_, ?_, ?_, ?_, ?_, ?_⟩
    · simp (disch := omega) only [↓mi_103_0, ↓mi_103_1, ↓mi_103_4, ↓mi_103_5, ↓mi_103_6, ↓mi_103_7, ↓mi_103_10, ↓mi_103_43, ↓mi_103_44, ↓mi_103_45, ↓mi_103_48, ↓mi_103_49, ↓mi_103_50, ↓mi_103_51, ↓mi_103_52, ↓mi_103_55, ↓mi_103_56, ↓mi_103_59, ↓mi_103_60, ↓mi_103_61, ↓mi_103_62, ↓mi_103_63, ↓mi_103_64, ↓mi_103_65, ↓mi_103_66, ↓mi_103_67, ↓mi_103_70, cond_true, mz_clv, mz_cln, Bool.false_or, Bool.true_or, Bool.or_false, Bool.or_true, if_true, if_false, ite_self, ms_u_s, ms_u_r, ms_u_i, ms_u_u, o0_36, hN, sp_15, hc, if_pos b_f, hB, e2, na_up, pk_mul, hcp]
    · intro i hi
      rw [ms_u_s, pk_cpy_in (by omega) (by omega), show 2 + (1 + 2 * v + i - (1 + 2 * v)) = 2 + i by omega, hT (2 + i) (by omega), if_neg hf]
    · intro i hi
      rw [ms_u_s, pk_cpy_out (by omega)]
    · rw [ms_u_r _ _ _ _ (by decide), ms_u_s, pk_un (by decide), if_neg hf, hA]
    · rw [ms_u_r _ _ _ _ (by decide), ms_u_s, pk_us, if_neg hf]
    · intro k k1 k2
      rw [ms_u_r _ _ _ _ (by decide), ms_u_s, pk_un k2]
    · intro r' u' n1 n2
      rw [show ∀ (I : ms_i) f, ms_u I 18 p f r' u' = I r' u' from fun I f => if_neg fun z => by rcases n1 with h | h <;> omega]
      exact if_neg fun z => by rcases n2 with h | h <;> omega
def ms_f3 (I I' : ms_i) (p u : Nat) : Prop := ∀ r' u', r' ≠ 6 → r' ≠ 7 → r' ≠ 12 → r' ≠ 13 → (r' ≠ 18 ∨ u' ≠ p) → (r' ≠ 31 ∨ u' ≠ u) → (r' ≠ 39 ∨ u' ≠ u) → I' r' u' = I r' u'
theorem ws_1 {u p v t x0 x1 x2 a b : Nat} {nm1 nm2 : Int32} {ky bx : Nat → Int32} (hz : ms_Z6 I) (hu : u < 8) (hv : v < 8) (hp : p < 56) (hl : ms_wl p = 17) (h1 : x1 < 2305843009213693951) (hX : J 32 u 1 = lN x1) (hN1 : I 36 u 1 = nm1) (hN2 : I 36 u 2 = nm2) (hK : ∀ k, k < 32 → I 37 u (1 + k) = ky k) (hB : ∀ k, k < 64 → I 38 u (1 + k) = bx k) (hS : J 34 u v = lN (ms_sh x2 (ms_cf x2 1 u) (v + 1) t)) (hM : J 35 u v = lN (ms_sh x0 (ms_cf x2 0 u) (v + 1) t)) (ha : a < 2 ^ v) (hb : b < 2 ^ v) (hA : I 31 u 11 = nI a) (hBB : I 31 u 12 = nI b) : ∃ I' J', ms_G 102 7 [.ref (ms_ad 31 u), .ref (ms_ad 18 p), .ref (ms_ad 4 0), .int (nI v)] [] (ms_Z q true I J) = ms_G 102 7 [.ref (ms_ad 31 u), .ref (ms_ad 18 p), .ref (ms_ad 4 0), .int (nI (v + 1))] [] (ms_Z q true I' J') ∧ (∀ i, i < 2 → I' 18 p (1 + 2 * v + i) = if ms_gv u x1 nm1 ky bx v = true then ms_w3 u t x0 x1 x2 nm1 nm2 ky bx v i else I 18 p (1 + 2 * v + i)) ∧ (∀ i, i < 1 + 2 * v ∨ 3 + 2 * v ≤ i → I' 18 p i = I 18 p i) ∧ I' 31 u 11 = nI (if (ms_gv u x1 nm1 ky bx v && ms_bit nm2 v) = true then a + 2 ^ v else a) ∧ I' 31 u 12 = nI (if (ms_gv u x1 nm1 ky bx v && !ms_bit nm2 v) = true then b + 2 ^ v else b) ∧ (∀ k, k ≠ 11 → k ≠ 12 → I' 31 u k = I 31 u k) ∧ ms_f3 I I' p u ∧ ms_fJ J J' ∧ ms_Z6 I' := by
  by_cases hvu : v = u
  · have hG : ms_gv u x1 nm1 ky bx v = true := by unfold ms_gv; rw [decide_eq_true hvu]; rfl
    have g1 : ms_sh x2 (ms_cf x2 1 u) (v + 1) t < 2305843009213693951 := Nat.mod_lt _ (by decide)
    have g2 : ms_sh x0 (ms_cf x2 0 u) (v + 1) t < 2305843009213693951 := Nat.mod_lt _ (by decide)
    obtain ⟨s1, es1⟩ : ∃ s1, s1 = ms_sh x2 (ms_cf x2 1 u) (v + 1) t := ⟨_, rfl⟩
    obtain ⟨s2, es2⟩ : ∃ s2, s2 = ms_sh x0 (ms_cf x2 0 u) (v + 1) t := ⟨_, rfl⟩
    rw [← es1] at hS g1
    rw [← es2] at hM g2
    obtain ⟨I1, eI1⟩ : ∃ I1, I1 = ms_u I 39 u (upd (upd (I 39 u) 0 (nI s1)) (0 + 1) (nI (s1 / 4294967296))) := ⟨_, rfl⟩
    obtain ⟨I2, eI2⟩ : ∃ I2, I2 = ms_u I1 39 u (upd (upd (I1 39 u) 2 (nI s2)) (2 + 1) (nI (s2 / 4294967296))) := ⟨_, rfl⟩
    have w1 := sp_86 (q := q) (I := I) (J := J) (v := s1) (r := 39) (u := u) (k := 0) (by omega) (o0_39 hu (by decide)) (o0_39 hu (by decide))
    have w2 := sp_86 (q := q) (I := I1) (J := J) (v := s2) (r := 39) (u := u) (k := 2) (by omega) (o0_39 hu (by decide)) (o0_39 hu (by decide))
    rw [← eI1] at w1
    rw [← eI2] at w2
    have f2 : ∀ r' u', (r' ≠ 39 ∨ u' ≠ u) → I2 r' u' = I r' u' := fun r' u' hne => by
      have : ∀ (I : ms_i) f, ms_u I 39 u f r' u' = I r' u' := fun I f => if_neg fun z => by rcases hne with h | h <;> omega
      rw [eI2, this, eI1, this]
    have ht : ∀ j, j < 4 → I2 39 u j = ms_tx3 u t x0 x1 x2 ky bx v j := by
      intro j hj
      unfold ms_tx3
      rw [if_pos hvu, ← es1, ← es2, eI2, ms_u_s]
      have : j = 0 ∨ j = 1 ∨ j = 2 ∨ j = 3 := by omega
      rcases this with h | h | h | h
      · subst h
        rw [pk_un (by omega), pk_un (by omega), eI1, ms_u_s, pk_un (by omega), pk_us]
        rfl
      · subst h
        rw [pk_un (by omega), pk_un (by omega), eI1, ms_u_s, pk_us]
        rfl
      · subst h
        rw [pk_un (by omega), pk_us]
        rfl
      · subst h
        rw [pk_us]
        rfl
    obtain ⟨I3, r3, c1, c2, c3, c4, c5, c6⟩ := sp_103 (q := q) (I := I2) (J := J) (p := p) (nm2 := nm2) (T := ms_tx3 u t x0 x1 x2 ky bx v) hu hp hl hv (by rw [f2 36 u (Or.inl (by decide))]; exact hN2) ht ha hb (by rw [f2 31 u (Or.inl (by decide))]; exact hA) (by rw [f2 31 u (Or.inl (by decide))]; exact hBB)
    refine ⟨I3, J, ?_, ?_, ?_, ?_, ?_, ?_, ?_, fun _ _ _ _ _ => rfl, ?_⟩
    · subst hvu
      rw [mi_102_7]
      simp (disch := omega) only [↓mi_102_8, ↓mi_102_10, ↓mi_102_13, ↓mi_102_14, ↓mi_102_15, ↓mi_102_18, ↓mi_102_21, ↓mi_102_22, ↓mi_102_25, ↓mi_102_26, ↓mi_102_27, ↓mi_102_28, ↓mi_102_31, ↓mi_102_32, ↓mi_102_35, ↓mi_102_36, ↓mi_102_39, ↓mi_102_40, ↓mi_102_41, ↓mi_102_42, ↓mi_102_45, ↓mi_102_46, ↓mi_102_49, ↓mi_102_50, ↓mi_102_51, ↓mi_102_52, ↓mi_102_55, ↓mi_102_109, ↓mi_102_112, cond_true, mz_clv, mz_cln, Bool.false_or, Bool.true_or, Bool.or_false, Bool.or_true, if_true, if_false, ite_self, o1_34, o1_35, sv_3, na_le, na_up, if_neg, if_true, hS, hM, w1, w2, r3]
    · intro i hi
      rw [if_pos hG, c1 i hi]
      unfold ms_w3
      rw [if_pos hG]
    · intro i hi
      rw [c2 i hi, f2 18 p (Or.inl (by decide))]
    · rw [c3, hG, Bool.true_and]
    · rw [c4, hG, Bool.true_and]
      cases ms_bit nm2 v <;> rfl
    · intro k k1 k2
      rw [c5 k k1 k2, f2 31 u (Or.inl (by decide))]
    · intro r' u' a6 a7 a12 a13 n1 n2 n3
      rw [c6 r' u' n1 n2, f2 r' u' n3]
    · intro k k1 k2
      rw [c6 6 0 (Or.inl (by decide)) (Or.inl (by decide)), f2 6 0 (Or.inl (by decide))]
      exact hz k k1 k2
  · cases hc : ms_bit nm1 v with
    | false =>
      have hG : ms_gv u x1 nm1 ky bx v = false := by unfold ms_gv; rw [decide_eq_false hvu, hc]; rfl
      refine ⟨I, J, ?_, fun i _ => by rw [hG]; rfl, fun _ _ => rfl, by rw [hG]; exact hA, by rw [hG]; exact hBB, fun _ _ _ => rfl, fun _ _ _ _ _ _ _ _ _ => rfl, fun _ _ _ _ _ => rfl, hz⟩
      rw [mi_102_7]
      simp (disch := omega) only [↓mi_102_8, ↓mi_102_10, ↓mi_102_13, ↓mi_102_14, ↓mi_102_15, ↓mi_102_18, ↓mi_102_58, ↓mi_102_59, ↓mi_102_62, ↓mi_102_63, ↓mi_102_64, ↓mi_102_65, ↓mi_102_68, ↓mi_102_109, ↓mi_102_112, cond_true, mz_clv, mz_cln, Bool.false_or, Bool.true_or, Bool.or_false, Bool.or_true, if_true, if_false, ite_self, o0_36, sv_3, na_le, na_eq, na_up, if_neg, hN1, sp_15, hc, if_pos b_f]
    | true =>
      have ag := sp_104 (q := q) (I := I) (J := J) (u := u) (v := v) (k := 1) (s := x1) hu hv (by decide) h1 hX
      rw [show 1 + 4 * v + 2 * 1 = 1 + (4 * v + 2) by omega, show 1 + (4 * v + 2) + 1 = 1 + (4 * v + 3) by omega, hK _ (by omega), hK _ (by omega), show ms_pw (ms_num (ky (4 * v + 2)) (ky (4 * v + 3))) x1 = ms_bk x1 ky v from rfl] at ag
      obtain ⟨I1, J1, r1, d1, f1, j1, z1⟩ := sp_72 (q := q) (I := I) (J := J) (v := ms_bk x1 ky v) (a := nI v) (b := nI u) (r := 38) (u := u) (k := 1 + 8 * v) (rt := 39) (ms_pw_lt _ _) hz (by decide) (by decide) (by decide) (by decide) (by decide) (by decide) (by decide) (by decide) (by decide) (fun i hi => o0_38 hu (by omega)) (fun i hi => o0_39 hu hi)
      have x0' : I 38 u (1 + 8 * v) = bx (8 * v) := hB _ (by omega)
      have x1' : I 38 u (1 + 8 * v + 1) = bx (8 * v + 1) := by rw [← hB _ (by omega)]; congr 1 <;> omega
      have x2' : I 38 u (1 + 8 * v + 2) = bx (8 * v + 2) := by rw [← hB _ (by omega)]; congr 1 <;> omega
      have x3' : I 38 u (1 + 8 * v + 3) = bx (8 * v + 3) := by rw [← hB _ (by omega)]; congr 1 <;> omega
      have eok : ms_ok4 (ms_tag (ms_bk x1 ky v) (nI v) (nI u) (I 38 u (1 + 8 * v)) (I 38 u (1 + 8 * v + 1)) (I 38 u (1 + 8 * v + 2)) (I 38 u (1 + 8 * v + 3))) (fun i => I 38 u (1 + 8 * v + 4 + i)) = ms_ok4 (ms_tag (ms_bk x1 ky v) (nI v) (nI u) (bx (8 * v)) (bx (8 * v + 1)) (bx (8 * v + 2)) (bx (8 * v + 3))) (fun i => bx (8 * v + 4 + i)) := by
        rw [x0', x1', x2', x3']
        exact ok4_cg (fun i hi => by
          show I 38 u (1 + 8 * v + 4 + i) = bx (8 * v + 4 + i)
          rw [← hB _ (by omega)]
          congr 1 <;> omega)
      rw [eok] at r1 d1
      obtain ⟨K, eK⟩ : ∃ K, K = ms_ok4 (ms_tag (ms_bk x1 ky v) (nI v) (nI u) (bx (8 * v)) (bx (8 * v + 1)) (bx (8 * v + 2)) (bx (8 * v + 3))) (fun i => bx (8 * v + 4 + i)) := ⟨_, rfl⟩
      rw [← eK] at r1 d1
      have hG : ms_gv u x1 nm1 ky bx v = K := by unfold ms_gv; rw [decide_eq_false hvu, hc, ← eK]; rfl
      cases hK2 : K with
      | false =>
        rw [hK2] at r1 hG
        refine ⟨I1, J1, ?_, fun i _ => ?_, fun i _ => ?_, ?_, ?_, fun k _ _ => ?_, fun r' u' a6 a7 a12 a13 n1 n2 n3 => f1 r' u' a6 a7 a12 a13 n3, j1, z1⟩
        · rw [mi_102_7]
          simp (disch := omega) only [↓mi_102_8, ↓mi_102_10, ↓mi_102_13, ↓mi_102_14, ↓mi_102_15, ↓mi_102_18, ↓mi_102_58, ↓mi_102_59, ↓mi_102_62, ↓mi_102_63, ↓mi_102_64, ↓mi_102_65, ↓mi_102_68, ↓mi_102_71, ↓mi_102_72, ↓mi_102_73, ↓mi_102_74, ↓mi_102_75, ↓mi_102_78, ↓mi_102_79, ↓mi_102_80, ↓mi_102_83, ↓mi_102_84, ↓mi_102_87, ↓mi_102_88, ↓mi_102_90, ↓mi_102_91, ↓mi_102_92, ↓mi_102_93, ↓mi_102_94, ↓mi_102_97, ↓mi_102_100, ↓mi_102_103, ↓mi_102_104, ↓mi_102_105, ↓mi_102_106, ↓mi_102_109, ↓mi_102_112, cond_true, mz_clv, mz_cln, Bool.false_or, Bool.true_or, Bool.or_false, Bool.or_true, if_true, if_false, ite_self, o0_36, sv_3, na_le, na_eq, na_up, pk_mul, if_neg, hN1, sp_15, hc, if_neg b_t, if_pos b_f, ag, r1]
        · rw [hG, f1 18 p (by decide) (by decide) (by decide) (by decide) (Or.inl (by decide))]
          rfl
        · rw [f1 18 p (by decide) (by decide) (by decide) (by decide) (Or.inl (by decide))]
        · rw [hG, f1 31 u (by decide) (by decide) (by decide) (by decide) (Or.inl (by decide)), hA]
          rfl
        · rw [hG, f1 31 u (by decide) (by decide) (by decide) (by decide) (Or.inl (by decide)), hBB]
          rfl
        · rw [f1 31 u (by decide) (by decide) (by decide) (by decide) (Or.inl (by decide))]
      | true =>
        rw [hK2] at r1 hG d1
        have g : ∀ r' u', r' ≠ 6 → r' ≠ 7 → r' ≠ 12 → r' ≠ 13 → (r' ≠ 39 ∨ u' ≠ u) → I1 r' u' = I r' u' := f1
        have ht : ∀ j, j < 4 → I1 39 u j = ms_tx3 u t x0 x1 x2 ky bx v j := by
          intro j hj
          unfold ms_tx3
          rw [if_neg hvu, d1 rfl j hj, show 1 + 8 * v + j = 1 + (8 * v + j) by omega, hB _ (by omega)]
        obtain ⟨I3, r3, c1, c2, c3, c4, c5, c6⟩ := sp_103 (q := q) (I := I1) (J := J1) (p := p) (nm2 := nm2) (T := ms_tx3 u t x0 x1 x2 ky bx v) hu hp hl hv (by rw [g 36 u (by decide) (by decide) (by decide) (by decide) (Or.inl (by decide))]; exact hN2) ht ha hb (by rw [g 31 u (by decide) (by decide) (by decide) (by decide) (Or.inl (by decide))]; exact hA) (by rw [g 31 u (by decide) (by decide) (by decide) (by decide) (Or.inl (by decide))]; exact hBB)
        refine ⟨I3, J1, ?_, ?_, ?_, ?_, ?_, ?_, ?_, j1, ?_⟩
        · rw [mi_102_7]
          simp (disch := omega) only [↓mi_102_8, ↓mi_102_10, ↓mi_102_13, ↓mi_102_14, ↓mi_102_15, ↓mi_102_18, ↓mi_102_58, ↓mi_102_59, ↓mi_102_62, ↓mi_102_63, ↓mi_102_64, ↓mi_102_65, ↓mi_102_68, ↓mi_102_71, ↓mi_102_72, ↓mi_102_73, ↓mi_102_74, ↓mi_102_75, ↓mi_102_78, ↓mi_102_79, ↓mi_102_80, ↓mi_102_83, ↓mi_102_84, ↓mi_102_87, ↓mi_102_88, ↓mi_102_90, ↓mi_102_91, ↓mi_102_92, ↓mi_102_93, ↓mi_102_94, ↓mi_102_97, ↓mi_102_100, ↓mi_102_103, ↓mi_102_104, ↓mi_102_105, ↓mi_102_106, ↓mi_102_109, ↓mi_102_112, cond_true, mz_clv, mz_cln, Bool.false_or, Bool.true_or, Bool.or_false, Bool.or_true, if_true, if_false, ite_self, o0_36, sv_3, na_le, na_eq, na_up, pk_mul, if_neg, hN1, sp_15, hc, if_neg b_t, ag, r1, r3]
        · intro i hi
          rw [if_pos hG, c1 i hi]
          unfold ms_w3
          rw [if_pos hG]
        · intro i hi
          rw [c2 i hi, g 18 p (by decide) (by decide) (by decide) (by decide) (Or.inl (by decide))]
        · rw [c3, hG, Bool.true_and]
        · rw [c4, hG, Bool.true_and]
          cases ms_bit nm2 v <;> rfl
        · intro k k1 k2
          rw [c5 k k1 k2, g 31 u (by decide) (by decide) (by decide) (by decide) (Or.inl (by decide))]
        · intro r' u' a6 a7 a12 a13 n1 n2 n3
          rw [c6 r' u' n1 n2, g r' u' a6 a7 a12 a13 n3]
        · intro k k1 k2
          rw [c6 6 0 (Or.inl (by decide)) (Or.inl (by decide))]
          exact z1 k k1 k2
theorem ws_l {u p t x0 x1 x2 : Nat} {nm1 nm2 : Int32} {ky bx : Nat → Int32} (hu : u < 8) (hp : p < 56) (hl : ms_wl p = 17) (h1 : x1 < 2305843009213693951) : ∀ m v I J, m + v = 8 → ms_Z6 I → J 32 u 1 = lN x1 → I 36 u 1 = nm1 → I 36 u 2 = nm2 → (∀ k, k < 32 → I 37 u (1 + k) = ky k) → (∀ k, k < 64 → I 38 u (1 + k) = bx k) → (∀ v, v < 8 → J 34 u v = lN (ms_sh x2 (ms_cf x2 1 u) (v + 1) t)) → (∀ v, v < 8 → J 35 u v = lN (ms_sh x0 (ms_cf x2 0 u) (v + 1) t)) → I 31 u 11 = nI (ms_gs (fun v => ms_gv u x1 nm1 ky bx v && ms_bit nm2 v) v) → I 31 u 12 = nI (ms_gs (fun v => ms_gv u x1 nm1 ky bx v && !ms_bit nm2 v) v) → (∀ i, 1 + 2 * v ≤ i → i < 17 → I 18 p i = nI 0) → ∃ I' J', ms_G 102 7 [.ref (ms_ad 31 u), .ref (ms_ad 18 p), .ref (ms_ad 4 0), .int (nI v)] [] (ms_Z q true I J) = some (.inl none, ms_Z q true I' J') ∧ (∀ v', v ≤ v' → v' < 8 → ∀ i, i < 2 → I' 18 p (1 + 2 * v' + i) = ms_w3 u t x0 x1 x2 nm1 nm2 ky bx v' i) ∧ (∀ i, 0 < i → i < 1 + 2 * v → I' 18 p i = I 18 p i) ∧ I' 18 p 0 = nI (ms_gs (ms_gv u x1 nm1 ky bx) 8) ∧ I' 31 u 11 = nI (ms_gs (fun v => ms_gv u x1 nm1 ky bx v && ms_bit nm2 v) 8) ∧ I' 31 u 12 = nI (ms_gs (fun v => ms_gv u x1 nm1 ky bx v && !ms_bit nm2 v) 8) ∧ (∀ k, k ≠ 11 → k ≠ 12 → I' 31 u k = I 31 u k) ∧ ms_f3 I I' p u ∧ ms_fJ J J' ∧ ms_Z6 I'
  | 0, v, I, J, hv, hz, hX, hN1, hN2, hK, hB, hS, hM, hA, hBB, h0 => by
    have : v = 8 := by omega
    subst this
    have oo := o0_18 (q := q.1) (p := p) (i := 0) hp (by omega)
    refine ⟨ms_u I 18 p (upd (I 18 p) 0 (nI (ms_gs (ms_gv u x1 nm1 ky bx) 8))), J, ?_, fun v' a b => absurd a (by omega), ?_, ?_, ?_, ?_, ?_, ?_, fun _ _ _ _ _ => rfl, ?_⟩
    · simp (disch := omega) only [↓mi_102_7, ↓mi_102_8, ↓mi_102_10, ↓mi_102_115, ↓mi_102_116, ↓mi_102_117, ↓mi_102_118, ↓mi_102_121, ↓mi_102_122, ↓mi_102_125, ↓mi_102_126, ↓mi_102_127, cond_true, mz_clv, mz_cln, Bool.false_or, Bool.true_or, Bool.or_false, Bool.or_true, if_true, if_false, ite_self, na_le, if_pos, hA, hBB, na_or, gs_or, oo]
    · intro i i1 i2
      rw [ms_u_s, pk_un (by omega)]
    · rw [ms_u_s, pk_us]
    · rw [ms_u_r _ _ _ _ (by decide)]; exact hA
    · rw [ms_u_r _ _ _ _ (by decide)]; exact hBB
    · intro k _ _
      rw [ms_u_r _ _ _ _ (by decide)]
    · intro r' u' a6 a7 a12 a13 n1 n2 n3
      exact if_neg fun z => by rcases n1 with h | h <;> omega
    · intro k k1 k2
      rw [ms_u_r _ _ _ _ (by decide)]
      exact hz k k1 k2
  | m + 1, v, I, J, hv, hz, hX, hN1, hN2, hK, hB, hS, hM, hA, hBB, h0 => by
    obtain ⟨I1, J1, r1, w1, o1, a1, b1, c1, f1, j1, z1⟩ := ws_1 (q := q) (nm1 := nm1) (nm2 := nm2) (ky := ky) (bx := bx) (t := t) (x0 := x0) (x2 := x2) hz hu (show v < 8 by omega) hp hl h1 hX hN1 hN2 hK hB (hS v (by omega)) (hM v (by omega)) (gs_lt _ v) (gs_lt _ v) hA hBB
    have f36 : I1 36 u = I 36 u := f1 36 u (by decide) (by decide) (by decide) (by decide) (Or.inl (by decide)) (Or.inl (by decide)) (Or.inl (by decide))
    have f37 : I1 37 u = I 37 u := f1 37 u (by decide) (by decide) (by decide) (by decide) (Or.inl (by decide)) (Or.inl (by decide)) (Or.inl (by decide))
    have f38 : I1 38 u = I 38 u := f1 38 u (by decide) (by decide) (by decide) (by decide) (Or.inl (by decide)) (Or.inl (by decide)) (Or.inl (by decide))
    have f32 : J1 32 u = J 32 u := j1 32 u (by decide) (by decide) (by decide)
    have f34 : J1 34 u = J 34 u := j1 34 u (by decide) (by decide) (by decide)
    have f35 : J1 35 u = J 35 u := j1 35 u (by decide) (by decide) (by decide)
    obtain ⟨I2, J2, r2, w2, o2, p2, a2, b2, c2, f2, j2, z2⟩ := ws_l (nm1 := nm1) (nm2 := nm2) (ky := ky) (bx := bx) (t := t) (x0 := x0) (x2 := x2) hu hp hl h1 m (v + 1) I1 J1 (by omega) z1 (by rw [f32]; exact hX) (by rw [f36]; exact hN1) (by rw [f36]; exact hN2) (by rw [f37]; exact hK) (by rw [f38]; exact hB) (by rw [f34]; exact hS) (by rw [f35]; exact hM) a1 b1 (fun i a b => by rw [o1 i (by omega)]; exact h0 i (by omega) b)
    refine ⟨I2, J2, r1.trans r2, ?_, ?_, p2, a2, b2, ?_, ?_, ?_, z2⟩
    · intro v' a b i hi
      by_cases e : v' = v
      · subst e
        rw [o2 _ (by omega) (by omega), w1 i hi]
        by_cases hc : ms_gv u x1 nm1 ky bx v' = true
        · rw [if_pos hc]
        · rw [if_neg hc, h0 _ (by omega) (by omega)]
          exact (if_neg hc).symm
      · exact w2 v' (by omega) b i hi
    · intro i i1 i2
      rw [o2 i i1 (by omega), o1 i (by omega)]
    · intro k k1 k2
      rw [c2 k k1 k2, c1 k k1 k2]
    · intro r' u' a6 a7 a12 a13 n1 n2 n3
      rw [f2 r' u' a6 a7 a12 a13 n1 n2 n3, f1 r' u' a6 a7 a12 a13 n1 n2 n3]
    · intro r' u' a b c
      rw [j2 r' u' a b c, j1 r' u' a b c]
theorem sp_102 {u p t x0 x1 x2 : Nat} {nm1 nm2 : Int32} {ky bx : Nat → Int32} (hu : u < 8) (hp : p < 56) (hl : ms_wl p = 17) (h1 : x1 < 2305843009213693951) (hz : ms_Z6 I) (hX : J 32 u 1 = lN x1) (hN1 : I 36 u 1 = nm1) (hN2 : I 36 u 2 = nm2) (hK : ∀ k, k < 32 → I 37 u (1 + k) = ky k) (hB : ∀ k, k < 64 → I 38 u (1 + k) = bx k) (hS : ∀ v, v < 8 → J 34 u v = lN (ms_sh x2 (ms_cf x2 1 u) (v + 1) t)) (hM : ∀ v, v < 8 → J 35 u v = lN (ms_sh x0 (ms_cf x2 0 u) (v + 1) t)) (hA : I 31 u 11 = nI 0) (hBB : I 31 u 12 = nI 0) : ∃ I' J', ms_G 102 0 [.ref (ms_ad 31 u), .ref (ms_ad 18 p), .ref (ms_ad 4 0), .null] [] (ms_Z q false I J) = some (.inl none, ms_Z q true I' J') ∧ (∀ v, v < 8 → ∀ i, i < 2 → I' 18 p (1 + 2 * v + i) = ms_w3 u t x0 x1 x2 nm1 nm2 ky bx v i) ∧ I' 18 p 0 = nI (ms_gs (ms_gv u x1 nm1 ky bx) 8) ∧ I' 31 u 11 = nI (ms_gs (fun v => ms_gv u x1 nm1 ky bx v && ms_bit nm2 v) 8) ∧ I' 31 u 12 = nI (ms_gs (fun v => ms_gv u x1 nm1 ky bx v && !ms_bit nm2 v) 8) ∧ (∀ k, k ≠ 11 → k ≠ 12 → I' 31 u k = I 31 u k) ∧ ms_f3 I I' p u ∧ ms_fJ J J' ∧ ms_Z6 I' := by
  obtain ⟨I1, eI1⟩ : ∃ I1, I1 = ms_u I 18 p (ms_fl (ms_wl p) (nI 0) (I 18 p)) := ⟨_, rfl⟩
  have f := sp_148w (q := q) (I := I) (J := J) hp (by omega)
  rw [← eI1] at f
  have fr : ∀ r u', r ≠ 18 → I1 r u' = I r u' := fun r u' h => by rw [eI1, ms_u_r _ _ _ _ h]
  obtain ⟨I2, J2, r2, w2, o2, p2, a2, b2, c2, f2, j2, z2⟩ := ws_l (q := q) (nm1 := nm1) (nm2 := nm2) (ky := ky) (bx := bx) (t := t) (x0 := x0) (x2 := x2) hu hp hl h1 8 0 I1 J rfl (fun k a b => by rw [fr 6 0 (by decide)]; exact hz k a b) hX (by rw [fr 36 u (by decide)]; exact hN1) (by rw [fr 36 u (by decide)]; exact hN2) (by rw [fr 37 u (by decide)]; exact hK) (by rw [fr 38 u (by decide)]; exact hB) hS hM (by rw [fr 31 u (by decide)]; exact hA) (by rw [fr 31 u (by decide)]; exact hBB) (fun i a b => by rw [eI1, ms_u_s, hl]; exact if_pos b)
  refine ⟨I2, J2, ?_, fun v hv i hi => w2 v (by omega) hv i hi, p2, a2, b2, ?_, ?_, j2, z2⟩
  · simp (disch := omega) only [↓mi_102_0, ↓mi_102_1, ↓mi_102_2, ↓mi_102_5, ↓mi_102_6, cond_true, mz_clv, mz_cln, Bool.false_or, Bool.true_or, Bool.or_false, Bool.or_true, if_true, if_false, ite_self, f]
    exact r2
  · intro k k1 k2
    rw [c2 k k1 k2, fr 31 u (by decide)]
  · intro r' u' a6 a7 a12 a13 n1 n2 n3
    rw [f2 r' u' a6 a7 a12 a13 n1 n2 n3, eI1]
    exact if_neg fun z => by rcases n1 with h | h <;> omega
end Snd2
