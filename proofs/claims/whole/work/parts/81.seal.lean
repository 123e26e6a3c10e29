/-! BOXES, THE CLASS'S: sealed and opened. -/
def ms_xr (k n : Nat) (f B : Nat → Int32) : Nat → Int32 := fun i => if k ≤ i ∧ i < k + n then f i ^^^ B (i - k) else f i
theorem ms_xr_s (k n : Nat) (f B : Nat → Int32) : upd (ms_xr k n f B) (k + n) (ms_xr k n f B (k + n) ^^^ B n) = ms_xr k (n + 1) f B := by
  funext i
  unfold ms_xr upd
  by_cases h : i = k + n
  · subst h
    rw [if_pos rfl, if_neg (by omega), if_pos (by omega), Nat.add_sub_cancel_left]
  · rw [if_neg h]
    show (if k ≤ i ∧ i < k + n then f i ^^^ B (i - k) else f i) = _
    by_cases h2 : k ≤ i ∧ i < k + n
    · rw [if_pos h2, if_pos (by omega)]
    · rw [if_neg h2, if_neg (by omega)]
theorem ms_xr_0 (k : Nat) (f B : Nat → Int32) : ms_xr k 0 f B = f := by
  funext i
  exact if_neg (by omega)
def ms_box (v : Nat) (a b : Int32) (t : Nat → Int32) (i : Nat) : Int32 := if i < 4 then t i ^^^ ms_blk v (nI 1) a b (nI 1) i else ms_tag v a b (t 0 ^^^ ms_blk v (nI 1) a b (nI 1) 0) (t 1 ^^^ ms_blk v (nI 1) a b (nI 1) 1) (t 2 ^^^ ms_blk v (nI 1) a b (nI 1) 2) (t 3 ^^^ ms_blk v (nI 1) a b (nI 1) 3) (i - 4)
def ms_fX (I I' : ms_i) (r u : Nat) : Prop := ∀ r' u', r' ≠ 6 → r' ≠ 7 → r' ≠ 12 → r' ≠ 13 → (r' ≠ r ∨ u' ≠ u) → I' r' u' = I r' u'
theorem ms_u_o {α : Type} (I : Nat → Nat → α) (r u : Nat) (f : α) {r' u' : Nat} (h : r' ≠ r ∨ u' ≠ u) : ms_u I r u f r' u' = I r' u' := if_neg fun z => by
  rcases h with h | h
  · exact h z.1
  · exact h z.2
section Seal
variable {q : Nat × Nat} {w : Bool} {I : ms_i} {J : ms_j} {σ : ms_M} {v : Nat} {a b : Int32}
theorem xr_l {r u k : Nat} (h7 : r ≠ 7) (ho : ∀ i, i < 4 → mo_0 q.1 r u (k + i) = true) {f : Nat → Int32} {l1 l2 l3 l4 : Value} : ∀ m n, m + n = 4 → ms_G 71 18 [.ref (ms_ad 4 0), l1, l2, l3, l4, .ref (ms_ad r u), .int (nI k), .ref (ms_ad 7 0), .int (nI n)] [] (ms_Z q true (ms_u I r u (ms_xr k n f (I 7 0))) J) = ms_G 71 46 [.ref (ms_ad 4 0), l1, l2, l3, l4, .ref (ms_ad r u), .int (nI k), .ref (ms_ad 7 0), .int (nI 4)] [] (ms_Z q true (ms_u I r u (ms_xr k 4 f (I 7 0))) J)
  | 0, n, hn => by
    have : n = 4 := by omega
    subst this
    simp (disch := omega) only [↓mi_71_18, ↓mi_71_20, ↓mi_71_21, na_le, if_pos]
  | m + 1, n, hn => by
    have hok := ho n (by omega)
    have e7 : ∀ g, ms_u I r u g 7 0 = I 7 0 := fun g => ms_u_r _ _ _ _ (Ne.symm h7)
    rw [mi_71_18]
    simp (disch := omega) only [↓mi_71_20, ↓mi_71_21, ↓mi_71_24, ↓mi_71_26, ↓mi_71_28, ↓mi_71_30, ↓mi_71_31, ↓mi_71_32, ↓mi_71_33, ↓mi_71_35, ↓mi_71_37, ↓mi_71_38, ↓mi_71_39, ↓mi_71_40, ↓mi_71_43, cond_true, mz_clv, mz_cln, Bool.false_or, Bool.true_or, Bool.or_false, Bool.or_true, if_true, if_false, ite_self, ms_u_s, ms_u_u, e7, o0_7, hok, na_le, na_up, if_neg, ms_xr_s]
    exact xr_l h7 ho m (n + 1) (by omega)
theorem sp_71 {r u k : Nat} (hv : v < 2305843009213693951) (hz : ms_Z6 I) (h6 : r ≠ 6) (h7 : r ≠ 7) (h12 : r ≠ 12) (h13 : r ≠ 13) (ho : ∀ i, i < 8 → mo_0 q.1 r u (k + i) = true) (hc : mo_c q.1 13 0 r u 0 (k + 4) 4 = true) : ∃ I' J', ms_G 71 0 [.ref (ms_ad 4 0), .long (lN v), .null, .int a, .int b, .ref (ms_ad r u), .int (nI k), .null, .null] [] (ms_Z q false I J) = some (.inl none, ms_Z q true I' J') ∧ (∀ i, i < 8 → I' r u (k + i) = ms_box v a b (fun j => I r u (k + j)) i) ∧ (∀ i, i < k ∨ k + 8 ≤ i → I' r u i = I r u i) ∧ ms_fX I I' r u ∧ ms_fJ J J' ∧ ms_Z6 I' := by
  have h1 := xr_l (q := q) (I := ms_bkI I v (nI 1) a b (nI 1)) (J := J) (r := r) (u := u) (k := k) h7 (fun i hi => ho i (by omega)) (f := I r u) (l1 := .long (lN v)) (l2 := .null) (l3 := .int a) (l4 := .int b) 4 0 rfl
  have e0 := ms_u_id (ms_bkI I v (nI 1) a b (nI 1)) r u
  rw [bk_else h6 h7] at e0
  rw [ms_xr_0, e0] at h1
  obtain ⟨I1, eI1⟩ : ∃ I1, I1 = ms_u (ms_bkI I v (nI 1) a b (nI 1)) r u (ms_xr k 4 (I r u) (ms_bkI I v (nI 1) a b (nI 1) 7 0)) := ⟨_, rfl⟩
  rw [← eI1] at h1
  have hz1 : ms_Z6 I1 := by
    intro i i1 i2
    rw [eI1, ms_u_r _ _ _ _ (Ne.symm h6)]
    exact bk_keep hz i i1 i2
  have ex : ∀ i, i < 4 → I1 r u (k + i) = I r u (k + i) ^^^ ms_blk v (nI 1) a b (nI 1) i := by
    intro i hi
    rw [eI1, ms_u_s]
    unfold ms_xr
    rw [if_pos (by omega), Nat.add_sub_cancel_left, bk_word hz (by omega)]
  obtain ⟨I2, J2, h2, ht, hfI, hfJ, hz2⟩ := sp_73 (q := q) (I := I1) (J := J) (v := v) (a := a) (b := b) (r := r) (u := u) (k := k) hv hz1 h6 h7 h12 h13 (fun i hi => ho i (by omega))
  have er : I2 r u = I1 r u := hfI r u h6 h7 h12 h13
  refine ⟨ms_u I2 r u (va_cpy (I2 13 0) (I2 r u) 0 (k + 4) 4), J2, ?_, fun i hi => ?_, fun i hi => ?_, ?_, hfJ, ?_⟩
  · simp (disch := omega) only [↓mi_71_0, ↓mi_71_1, ↓mi_71_4, ↓mi_71_5, ↓mi_71_6, ↓mi_71_7, ↓mi_71_9, ↓mi_71_10, ↓mi_71_13, ↓mi_71_15, ↓mi_71_16, cond_true, mz_clv, mz_cln, Bool.false_or, Bool.true_or, Bool.or_false, Bool.or_true, if_true, if_false, ite_self, sp_66]
    rw [h1]
    simp (disch := omega) only [↓mi_71_46, ↓mi_71_47, ↓mi_71_48, ↓mi_71_49, ↓mi_71_51, ↓mi_71_53, ↓mi_71_55, ↓mi_71_58, ↓mi_71_59, ↓mi_71_62, ↓mi_71_65, ↓mi_71_66, ↓mi_71_68, ↓mi_71_70, ↓mi_71_71, ↓mi_71_72, ↓mi_71_73, ↓mi_71_76, cond_true, mz_clv, mz_cln, Bool.false_or, Bool.true_or, Bool.or_false, Bool.or_true, if_true, if_false, ite_self, h2, na_up, hc]
  · rw [ms_u_s]
    unfold ms_box
    by_cases h4 : i < 4
    · rw [if_pos h4, pk_cpy_out (by omega), er, ex i h4]
    · rw [if_neg h4, pk_cpy_in (by omega) (by omega), Nat.zero_add, show k + i - (k + 4) = i - 4 by omega, ht (i - 4) (by omega)]
      have e00 := ex 0 (by decide)
      rw [Nat.add_zero] at e00
      rw [e00, ex 1 (by decide), ex 2 (by decide), ex 3 (by decide)]
      rfl
  · rw [ms_u_s, pk_cpy_out (by omega), er, eI1, ms_u_s]
    unfold ms_xr
    rw [if_neg (by omega)]
  · intro r' u' k6 k7 k12 k13 hne
    rw [ms_u_o _ _ _ _ hne, hfI r' u' k6 k7 k12 k13, eI1, ms_u_o _ _ _ _ hne, bk_else k6 k7]
  · intro i i1 i2
    rw [ms_u_r _ _ _ _ (Ne.symm h6)]
    exact hz2 i i1 i2
-- opening
theorem op_i {r u k n t : Nat} (hn : n < 4) (hok : mo_0 q.1 r u (k + 4 + n) = true) {l1 l2 l3 l4 l9 : Value} : ms_G 72 15 [.ref (ms_ad 4 0), l1, l2, l3, l4, .ref (ms_ad r u), .int (nI k), .ref t, .int (nI n), l9] [] (ms_Z q true I J) = if I 13 0 n = I r u (k + 4 + n) then ms_G 72 15 [.ref (ms_ad 4 0), l1, l2, l3, l4, .ref (ms_ad r u), .int (nI k), .ref t, .int (nI (n + 1)), l9] [] (ms_Z q true I J) else some (.inl (some (.int (nI 0))), ms_Z q true I J) := by
  rw [mi_72_15]
  simp (disch := omega) only [↓mi_72_17, ↓mi_72_18, ↓mi_72_21, ↓mi_72_22, ↓mi_72_25, ↓mi_72_28, ↓mi_72_30, ↓mi_72_31, ↓mi_72_33, ↓mi_72_35, ↓mi_72_36, ↓mi_72_37, ↓mi_72_39, ↓mi_72_40, ↓mi_72_41, ↓mi_72_44, ↓mi_72_45, ↓mi_72_45_1, ↓mi_72_45_b, ↓mi_72_46, ↓mi_72_49, cond_true, mz_clv, mz_cln, Bool.false_or, Bool.true_or, Bool.or_false, Bool.or_true, if_true, if_false, ite_self, o0_13, hok, na_le, na_up, if_neg]
def ms_tx (n : Nat) (f B : Nat → Int32) (g : Nat → Int32) : Nat → Int32 := fun i => if i < n then f i ^^^ B i else g i
theorem ms_tx_s (n : Nat) (f B g : Nat → Int32) : upd (ms_tx n f B g) n (f n ^^^ B n) = ms_tx (n + 1) f B g := by
  funext i
  unfold ms_tx upd
  by_cases h : i = n
  · subst h
    simp
  · by_cases h2 : i < n
    · simp [h, h2, Nat.lt_succ_of_lt h2]
    · simp [h, h2, show ¬ i < n + 1 by omega]
theorem tx_l {r u k rt : Nat} (h7 : rt ≠ 7) (hr : rt ≠ r) (ho : ∀ i, i < 4 → mo_0 q.1 r u (k + i) = true) (hot : ∀ i, i < 4 → mo_0 q.1 rt u i = true) {g : Nat → Int32} {l1 l2 l3 l4 : Value} : ∀ m n, m + n = 4 → ms_G 72 70 [.ref (ms_ad 4 0), l1, l2, l3, l4, .ref (ms_ad r u), .int (nI k), .ref (ms_ad rt u), .ref (ms_ad 7 0), .int (nI n)] [] (ms_Z q true (ms_u I rt u (ms_tx n (fun i => I r u (k + i)) (I 7 0) g)) J) = some (.inl (some (.int (nI 1))), ms_Z q true (ms_u I rt u (ms_tx 4 (fun i => I r u (k + i)) (I 7 0) g)) J)
  | 0, n, hn => by
    have : n = 4 := by omega
    subst this
    simp (disch := omega) only [↓mi_72_70, ↓mi_72_72, ↓mi_72_73, ↓mi_72_101, ↓mi_72_102, ↓mi_72_102_1, ↓mi_72_102_b, na_le, if_pos]
  | m + 1, n, hn => by
    have hok := ho n (by omega)
    have hok2 := hot n (by omega)
    have e7 : ∀ g, ms_u I rt u g 7 0 = I 7 0 := fun g => ms_u_r _ _ _ _ (Ne.symm h7)
    have er : ∀ g, ms_u I rt u g r u = I r u := fun g => ms_u_r _ _ _ _ (Ne.symm hr)
    have es := ms_tx_s n (fun i => I r u (k + i)) (I 7 0) g
    rw [mi_72_70]
    simp (disch := omega) only [↓mi_72_72, ↓mi_72_73, ↓mi_72_76, ↓mi_72_78, ↓mi_72_80, ↓mi_72_82, ↓mi_72_84, ↓mi_72_86, ↓mi_72_87, ↓mi_72_88, ↓mi_72_90, ↓mi_72_92, ↓mi_72_93, ↓mi_72_94, ↓mi_72_95, ↓mi_72_98, cond_true, mz_clv, mz_cln, Bool.false_or, Bool.true_or, Bool.or_false, Bool.or_true, if_true, if_false, ite_self, ms_u_s, ms_u_u, e7, er, o0_7, hok, hok2, na_le, na_up, if_neg, es]
    exact tx_l h7 hr ho hot m (n + 1) (by omega)
def ms_ok4 (T W : Nat → Int32) : Bool := decide (T 0 = W 0) && decide (T 1 = W 1) && decide (T 2 = W 2) && decide (T 3 = W 3)
theorem sp_72 {r u k rt : Nat} (hv : v < 2305843009213693951) (hz : ms_Z6 I) (h6 : r ≠ 6) (h7 : r ≠ 7) (h12 : r ≠ 12) (h13 : r ≠ 13) (t6 : rt ≠ 6) (t7 : rt ≠ 7) (t12 : rt ≠ 12) (t13 : rt ≠ 13) (hr : rt ≠ r) (ho : ∀ i, i < 8 → mo_0 q.1 r u (k + i) = true) (hot : ∀ i, i < 4 → mo_0 q.1 rt u i = true) : ∃ I' J', ms_G 72 0 [.ref (ms_ad 4 0), .long (lN v), .null, .int a, .int b, .ref (ms_ad r u), .int (nI k), .ref (ms_ad rt u), .null, .null] [] (ms_Z q false I J) = some (.inl (some (.int (ms_b (ms_ok4 (ms_tag v a b (I r u k) (I r u (k + 1)) (I r u (k + 2)) (I r u (k + 3))) (fun i => I r u (k + 4 + i)))))), ms_Z q true I' J') ∧ (ms_ok4 (ms_tag v a b (I r u k) (I r u (k + 1)) (I r u (k + 2)) (I r u (k + 3))) (fun i => I r u (k + 4 + i)) = true → ∀ i, i < 4 → I' rt u i = I r u (k + i) ^^^ ms_blk v (nI 1) a b (nI 1) i) ∧ ms_fX I I' rt u ∧ ms_fJ J J' ∧ ms_Z6 I' := by
  obtain ⟨I2, J2, h2, ht, hfI, hfJ, hz2⟩ := sp_73 (q := q) (I := I) (J := J) (v := v) (a := a) (b := b) (r := r) (u := u) (k := k) hv hz h6 h7 h12 h13 (fun i hi => ho i (by omega))
  have er : I2 r u = I r u := hfI r u h6 h7 h12 h13
  have e0 : ms_G 72 0 [.ref (ms_ad 4 0), .long (lN v), .null, .int a, .int b, .ref (ms_ad r u), .int (nI k), .ref (ms_ad rt u), .null, .null] [] (ms_Z q false I J) = ms_G 72 15 [.ref (ms_ad 4 0), .long (lN v), .null, .int a, .int b, .ref (ms_ad r u), .int (nI k), .ref (ms_ad rt u), .int (nI 0), .null] [] (ms_Z q true I2 J2) := by
    simp only [↓mi_72_0, ↓mi_72_1, ↓mi_72_2, ↓mi_72_3, ↓mi_72_5, ↓mi_72_7, ↓mi_72_9, ↓mi_72_12, ↓mi_72_13, cond_true, mz_clv, mz_cln, Bool.false_or, Bool.true_or, Bool.or_false, Bool.or_true, if_true, if_false, ite_self, h2]
  have o4 : ∀ i, i < 4 → mo_0 q.1 r u (k + 4 + i) = true := fun i hi => by
    rw [Nat.add_assoc]
    exact ho (4 + i) (by omega)
  rw [e0, op_i (by decide) (o4 0 (by decide)), op_i (by decide) (o4 1 (by decide)), op_i (by decide) (o4 2 (by decide)), op_i (by decide) (o4 3 (by decide)), er, ht 0 (by decide), ht 1 (by decide), ht 2 (by decide), ht 3 (by decide)]
  obtain ⟨T, eT⟩ : ∃ T, T = ms_tag v a b (I r u k) (I r u (k + 1)) (I r u (k + 2)) (I r u (k + 3)) := ⟨_, rfl⟩
  rw [← eT]
  by_cases hc : T 0 = I r u (k + 4 + 0) ∧ T 1 = I r u (k + 4 + 1) ∧ T 2 = I r u (k + 4 + 2) ∧ T 3 = I r u (k + 4 + 3)
  · obtain ⟨c0, c1, c2, c3⟩ := hc
    have hk : ms_ok4 T (fun i => I r u (k + 4 + i)) = true := by simp [ms_ok4, c0, c1, c2, c3]
    rw [hk, if_pos c0, if_pos c1, if_pos c2, if_pos c3]
    have h5 := tx_l (q := q) (I := ms_bkI I2 v (nI 1) a b (nI 1)) (J := J2) (r := r) (u := u) (k := k) (rt := rt) t7 hr (fun i hi => ho i (by omega)) hot (g := I2 rt u) (l1 := .long (lN v)) (l2 := .null) (l3 := .int a) (l4 := .int b) 4 0 rfl
    have e9 := ms_u_id (ms_bkI I2 v (nI 1) a b (nI 1)) rt u
    rw [bk_else t6 t7] at e9
    have e10 : ms_tx 0 (fun i => ms_bkI I2 v (nI 1) a b (nI 1) r u (k + i)) (ms_bkI I2 v (nI 1) a b (nI 1) 7 0) (I2 rt u) = I2 rt u := by
      funext i
      exact if_neg (Nat.not_lt_zero i)
    rw [e10, e9] at h5
    refine ⟨ms_u (ms_bkI I2 v (nI 1) a b (nI 1)) rt u (ms_tx 4 (fun i => ms_bkI I2 v (nI 1) a b (nI 1) r u (k + i)) (ms_bkI I2 v (nI 1) a b (nI 1) 7 0) (I2 rt u)), J2, ?_, fun _ i hi => ?_, ?_, hfJ, ?_⟩
    · simp (disch := omega) only [↓mi_72_15, ↓mi_72_17, ↓mi_72_18, ↓mi_72_52, ↓mi_72_53, ↓mi_72_56, ↓mi_72_57, ↓mi_72_58, ↓mi_72_59, ↓mi_72_61, ↓mi_72_62, ↓mi_72_65, ↓mi_72_67, ↓mi_72_68, cond_true, mz_clv, mz_cln, Bool.false_or, Bool.true_or, Bool.or_false, Bool.or_true, if_true, if_false, ite_self, na_le, if_pos, sp_66]
      exact h5
    · rw [ms_u_s]
      unfold ms_tx
      rw [if_pos hi, bk_else h6 h7, er, bk_word hz2 (by omega)]
    · intro r' u' k6 k7 k12 k13 hne
      rw [ms_u_o _ _ _ _ hne, bk_else k6 k7, hfI r' u' k6 k7 k12 k13]
    · intro i i1 i2
      rw [ms_u_r _ _ _ _ (Ne.symm t6)]
      exact bk_keep hz2 i i1 i2
  · have hk : ms_ok4 T (fun i => I r u (k + 4 + i)) = false := by
      simp only [ms_ok4]
      rw [Bool.eq_false_iff]
      intro h
      simp only [Bool.and_eq_true, decide_eq_true_eq] at h
      exact hc ⟨h.1.1.1, h.1.1.2, h.1.2, h.2⟩
    rw [hk]
    refine ⟨I2, J2, ?_, (fun h => by cases h), fun r' u' k6 k7 k12 k13 _ => hfI r' u' k6 k7 k12 k13, hfJ, hz2⟩
    by_cases c0 : T 0 = I r u (k + 4 + 0)
    · rw [if_pos c0]
      by_cases c1 : T 1 = I r u (k + 4 + 1)
      · rw [if_pos c1]
        by_cases c2 : T 2 = I r u (k + 4 + 2)
        · rw [if_pos c2, if_neg (fun c3 => hc ⟨c0, c1, c2, c3⟩)]
          rfl
        · rw [if_neg c2]
          rfl
      · rw [if_neg c1]
        rfl
    · rw [if_neg c0]
      rfl
end Seal
