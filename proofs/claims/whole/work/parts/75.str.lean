/-! THE WORDS OF A BLOCK; streams; masks. -/
def ms_e16 (f g : Nat → Int32) : Prop := ∀ i, i < 16 → f i = g i
theorem e16_upd {f g : Nat → Int32} {k : Nat} {x y : Int32} (h : ms_e16 f g) (e : x = y) : ms_e16 (upd f k x) (upd g k y) := by
  intro i hi
  unfold upd
  by_cases hk : i = k
  · rw [if_pos hk, if_pos hk, e]
  · rw [if_neg hk, if_neg hk, h i hi]
theorem e16_ga {f g : Nat → Int32} {a b : Nat} (ha : a < 16) (hb : b < 16) (h : ms_e16 f g) : ms_e16 (ms_ga a b f) (ms_ga a b g) := e16_upd h (by rw [h a ha, h b hb])
theorem e16_gr {f g : Nat → Int32} {k a b : Nat} (ha : a < 16) (hb : b < 16) (h : ms_e16 f g) : ms_e16 (ms_gr k a b f) (ms_gr k a b g) := e16_upd h (by rw [h a ha, h b hb])
theorem e16_hq {f g : Nat → Int32} {k1 k2 a b c d : Nat} (ha : a < 16) (hb : b < 16) (hc : c < 16) (hd : d < 16) (h : ms_e16 f g) : ms_e16 (ms_hq k1 k2 a b c d f) (ms_hq k1 k2 a b c d g) := e16_gr hb hc (e16_ga hc hd (e16_gr hd ha (e16_ga ha hb h)))
theorem e16_qr {f g : Nat → Int32} {a b c d : Nat} (ha : a < 16) (hb : b < 16) (hc : c < 16) (hd : d < 16) (h : ms_e16 f g) : ms_e16 (ms_qr a b c d f) (ms_qr a b c d g) := e16_hq ha hb hc hd (e16_hq ha hb hc hd h)
theorem e16_rd {f g : Nat → Int32} (t : Nat) (h : ms_e16 f g) : ms_e16 (ms_rd t f) (ms_rd t g) :=
  e16_qr (by decide) (by omega) (by omega) (by omega) (e16_qr (by decide) (by omega) (by omega) (by omega) (e16_qr (by decide) (by omega) (by omega) (by omega) (e16_qr (by decide) (by omega) (by omega) (by omega) h)))
theorem e16_its {f g : Nat → Int32} (h : ms_e16 f g) : ∀ k, ms_e16 (ms_its k f) (ms_its k g)
  | 0 => h
  | k + 1 => e16_rd _ (e16_its h k)
theorem e16_plus {f g s t : Nat → Int32} (h : ms_e16 f g) (h2 : ms_e16 s t) : ms_e16 (ms_plus 16 f s) (fun i => g i + t i) := by
  intro i hi
  show (if i < 16 then f i + s i else f i) = g i + t i
  rw [if_pos hi, h i hi, h2 i hi]
theorem e16_st {v : Nat} {n a b c : Int32} {f g : Nat → Int32} (h : ∀ k, 6 ≤ k → k < 12 → f k = g k) : ms_e16 (mc_st v n a b c f) (mc_st v n a b c g) := by
  intro i hi
  unfold mc_st upd
  repeat' split
  all_goals first
    | rfl
    | exact h i (by omega) (by omega)
/-- the block -/
def ms_blk (v : Nat) (n a b c : Int32) : Nat → Int32 := fun i => ms_its 20 (mc_st v n a b c (fun _ => 0)) i + mc_st v n a b c (fun _ => 0) i
theorem na_rem2 (a d : Nat) : nI a - nI (a / d) * nI d = nI (a % d) := by
  rw [pk_mul, pk_sub (Nat.div_mul_le_self a d)]
  congr 1
  have := Nat.div_add_mod a d
  rw [Nat.mul_comm] at this
  omega
section Str
variable {q : Nat × Nat} {w : Bool} {I : ms_i} {J : ms_j} {σ : ms_M} {v : Nat} {n a b c : Int32}
theorem bk_word (h : ∀ k, 6 ≤ k → k < 12 → I 6 0 k = 0) {i : Nat} (hi : i < 16) : ms_bkI I v n a b c 7 0 i = ms_blk v n a b c i := by
  unfold ms_bkI
  rw [ms_u_s]
  have hs : ms_e16 (mc_st v n a b c (I 6 0)) (mc_st v n a b c (fun _ => 0)) := e16_st h
  refine e16_plus (e16_its (fun j hj => ?_) 20) hs i hi
  rw [pk_cpy_in (Nat.zero_le _) (by omega), Nat.zero_add, Nat.sub_zero]
  exact hs j hj
theorem bk_keep (h : ∀ k, 6 ≤ k → k < 12 → I 6 0 k = 0) : ∀ k, 6 ≤ k → k < 12 → ms_bkI I v n a b c 6 0 k = 0 := by
  intro k h1 h2
  unfold ms_bkI
  rw [ms_u_r _ _ _ _ (by decide), ms_u_s]
  unfold mc_st upd
  repeat' split
  all_goals first
    | omega
    | exact h k h1 h2
theorem bk_else {r u : Nat} (h6 : r ≠ 6) (h7 : r ≠ 7) : ms_bkI I v n a b c r u = I r u := by
  unfold ms_bkI
  rw [ms_u_r _ _ _ _ h7, ms_u_r _ _ _ _ h6]
theorem mx_word {i : Nat} (hi : i < 16) : ms_mxI I v n a b c 59 0 i = ms_blk v n a b c i := by
  unfold ms_mxI
  rw [ms_u_s, ms_itd_its]
  have hs : ms_e16 (mc_st v n a b c (ms_fl 16 (nI 0) (I 58 0))) (mc_st v n a b c (fun _ => 0)) := e16_st (fun k h1 h2 => if_pos (by omega))
  refine e16_plus (e16_its (fun j hj => ?_) 20) hs i hi
  show (if j < 16 then _ else _) = _
  rw [if_pos hj]
  exact hs j hj
theorem mx_else {r u : Nat} (h6 : r ≠ 58) (h7 : r ≠ 59) : ms_mxI I v n a b c r u = I r u := by
  unfold ms_mxI
  rw [ms_u_r _ _ _ _ h7, ms_u_r _ _ _ _ h6]
theorem sp_27 {k : Nat} (hv : v < 2305843009213693951) (hk : k < 64) : ms_G 27 0 [.ref (ms_ad 40 0), .long (lN v), .null, .int a, .int b, .int (nI k)] [] (ms_Z q false I J) = some (.inl (some (.int (ms_blk v (nI (k / 16)) a b (nI 0) (k % 16)))), ms_Z q true (ms_mxI I v (nI (k / 16)) a b (nI 0)) J) := by
  simp (disch := omega) only [↓mi_27_0, ↓mi_27_1, ↓mi_27_2, ↓mi_27_3, ↓mi_27_5, ↓mi_27_6, ↓mi_27_8, ↓mi_27_10, ↓mi_27_11, ↓mi_27_14, ↓mi_27_15, ↓mi_27_18, ↓mi_27_20, ↓mi_27_22, ↓mi_27_23, ↓mi_27_24, cond_true, mz_clv, mz_cln, Bool.false_or, Bool.true_or, Bool.or_false, Bool.or_true, if_true, if_false, ite_self, pk_div, na_rem2, sp_26, o0_59, mx_word]
theorem sp_69 (hv : v < 2305843009213693951) : ms_G 69 0 [.ref (ms_ad 4 0), .long (lN v), .null, .int a, .int b, .int n] [] (ms_Z q false I J) = some (.inl (some (.ref (ms_ad 7 0))), ms_Z q true (ms_bkI I v n a b (nI 0)) J) := by
  simp (disch := omega) only [↓mi_69_0, ↓mi_69_1, ↓mi_69_4, ↓mi_69_5, ↓mi_69_7, ↓mi_69_8, ↓mi_69_10, ↓mi_69_11, ↓mi_69_14, cond_true, mz_clv, mz_cln, Bool.false_or, Bool.true_or, Bool.or_false, Bool.or_true, if_true, if_false, ite_self, sp_66]
def ms_am (s : Bool) (k : Nat) (f m : Nat → Int32) : Nat → Int32 := fun i => if i < k then f i + (if s then m i else - m i) else f i
theorem ms_am_s (s : Bool) (k : Nat) (f m : Nat → Int32) : upd (ms_am s k f m) k (ms_am s k f m k + (if s then m k else - m k)) = ms_am s (k + 1) f m := by
  funext i
  unfold ms_am upd
  by_cases h : i = k
  · subst h
    simp
  · by_cases h2 : i < k
    · simp [h, h2, Nat.lt_succ_of_lt h2]
    · simp [h, h2, show ¬ i < k + 1 by omega]
theorem ms_am_0 (s : Bool) (f m : Nat → Int32) : ms_am s 0 f m = f := by
  funext i
  exact if_neg (Nat.not_lt_zero i)
theorem am_l {r u : Nat} (hr : r ≠ 7) (ho : ∀ i, i < 4 → mo_0 q.1 r u i = true) (s : Bool) {f : Nat → Int32} {l3 l4 l5 l6 : Value} : ∀ m k, m + k = 4 → ms_G 70 19 [.ref (ms_ad 4 0), .ref (ms_ad r u), .int (ms_b s), l3, l4, l5, l6, .ref (ms_ad 7 0), .int (nI k)] [] (ms_Z q true (ms_u I r u (ms_am s k f (I 7 0))) J) = some (.inl none, ms_Z q true (ms_u I r u (ms_am s 4 f (I 7 0))) J)
  | 0, k, hk => by
    have : k = 4 := by omega
    subst this
    simp (disch := omega) only [↓mi_70_19, ↓mi_70_21, ↓mi_70_22, ↓mi_70_56, na_le, if_pos]
  | m + 1, k, hk => by
    have h := am_l hr ho s (f := f) (l3 := l3) (l4 := l4) (l5 := l5) (l6 := l6) m (k + 1) (by omega)
    have hs := ms_am_s s k f (I 7 0)
    have hok := ho k (by omega)
    have h7 : ∀ g, ms_u I r u g 7 0 = I 7 0 := fun g => ms_u_r _ _ _ _ (Ne.symm hr)
    rw [mi_70_19]
    cases s
    · rw [if_neg (by decide)] at hs
      simp (disch := omega) only [↓mi_70_21, ↓mi_70_22, ↓mi_70_25, ↓mi_70_26, ↓mi_70_28, ↓mi_70_29, ↓mi_70_30, ↓mi_70_31, ↓mi_70_34, ↓mi_70_36, ↓mi_70_38, ↓mi_70_39, ↓mi_70_42, ↓mi_70_44, ↓mi_70_46, ↓mi_70_47, ↓mi_70_48, ↓mi_70_49, ↓mi_70_50, ↓mi_70_53, cond_true, mz_clv, mz_cln, Bool.false_or, Bool.true_or, Bool.or_false, Bool.or_true, if_true, if_false, ite_self, ms_u_s, ms_u_u, h7, o0_7, hok, na_le, na_up, if_neg, if_pos (show ms_b false = nI 0 from rfl), hs]
      exact h
    · rw [if_pos rfl] at hs
      simp (disch := omega) only [↓mi_70_21, ↓mi_70_22, ↓mi_70_25, ↓mi_70_26, ↓mi_70_28, ↓mi_70_29, ↓mi_70_30, ↓mi_70_31, ↓mi_70_34, ↓mi_70_36, ↓mi_70_38, ↓mi_70_39, ↓mi_70_42, ↓mi_70_44, ↓mi_70_46, ↓mi_70_47, ↓mi_70_48, ↓mi_70_49, ↓mi_70_50, ↓mi_70_53, cond_true, mz_clv, mz_cln, Bool.false_or, Bool.true_or, Bool.or_false, Bool.or_true, if_true, if_false, ite_self, ms_u_s, ms_u_u, h7, o0_7, hok, na_le, na_up, if_neg, if_neg (show ¬ ms_b true = nI 0 by decide), hs]
      exact h
theorem sp_70 {r u : Nat} (hv : v < 2305843009213693951) (h6 : r ≠ 6) (h7 : r ≠ 7) (ho : ∀ i, i < 4 → mo_0 q.1 r u i = true) (s : Bool) : ms_G 70 0 [.ref (ms_ad 4 0), .ref (ms_ad r u), .int (ms_b s), .long (lN v), .null, .int a, .int b, .null, .null] [] (ms_Z q false I J) = some (.inl none, ms_Z q true (ms_u (ms_bkI I v (nI 0) a b (nI 0)) r u (ms_am s 4 (I r u) (ms_bkI I v (nI 0) a b (nI 0) 7 0))) J) := by
  have h := am_l (q := q) (I := ms_bkI I v (nI 0) a b (nI 0)) (J := J) (r := r) (u := u) h7 ho s (f := I r u) (l3 := .long (lN v)) (l4 := .null) (l5 := .int a) (l6 := .int b) 4 0 rfl
  have e := ms_u_id (ms_bkI I v (nI 0) a b (nI 0)) r u
  rw [bk_else h6 h7] at e
  rw [ms_am_0, e] at h
  simp (disch := omega) only [↓mi_70_0, ↓mi_70_1, ↓mi_70_4, ↓mi_70_5, ↓mi_70_6, ↓mi_70_8, ↓mi_70_10, ↓mi_70_11, ↓mi_70_14, ↓mi_70_16, ↓mi_70_17, cond_true, mz_clv, mz_cln, Bool.false_or, Bool.true_or, Bool.or_false, Bool.or_true, if_true, if_false, ite_self, sp_66]
  exact h
end Str
