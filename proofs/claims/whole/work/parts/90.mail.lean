/-! NUMBERS WITHIN BOUNDS; THE MAIL. -/
theorem i32_ext {x y : Int32} (h : x.toInt = y.toInt) : x = y := Int32.toInt_inj.mp h
theorem in_nat {x : Int32} {m : Nat} (hm : m ≤ 5000) (h : ms_in x m = true) : ∃ k, k < m ∧ x = nI k := by
  unfold ms_in at h
  have h2 := of_decide_eq_true h
  refine ⟨x.toInt.toNat, by omega, i32_ext ?_⟩
  rw [nI_toInt (by omega)]
  omega
theorem in_bad {x : Int32} {m : Nat} (hm : m ≤ 5000) (h : ms_in x m = false) : x < nI 0 ∨ nI m ≤ x := by
  unfold ms_in at h
  have h2 := of_decide_eq_false h
  rw [Int32.lt_iff_toInt_lt, Int32.le_iff_toInt_le, nI_toInt (by omega), nI_toInt (by omega)]
  omega
theorem in_sub {x : Int32} {m : Nat} (hm : m ≤ 5000) : (¬ x < nI 0 ∧ ¬ nI m - nI 1 < x) ↔ ms_in x m = true := by
  unfold ms_in
  rw [Int32.lt_iff_toInt_lt, Int32.lt_iff_toInt_lt, nI_toInt (by omega), pk_sub_toInt (by omega) (by omega), decide_eq_true_iff]
  omega
theorem in_con {x : Int32} {m : Nat} (hm : m ≤ 5000) : (¬ x < nI 0 ∧ ¬ nI m < x) ↔ ms_in x (m + 1) = true := by
  unfold ms_in
  rw [Int32.lt_iff_toInt_lt, Int32.lt_iff_toInt_lt, nI_toInt (by omega), nI_toInt (by omega), decide_eq_true_iff]
  omega
theorem in_nI {k m : Nat} (hk : k < 2147483648) : ms_in (nI k) m = decide (k < m) := by
  unfold ms_in
  rw [nI_toInt hk]
  by_cases h : k < m
  · rw [decide_eq_true h, decide_eq_true (by omega)]
  · rw [decide_eq_false h, decide_eq_false (by omega)]
theorem sp_19 {σ : ms_M} {x lo hi : Int32} {b : Bool} (h : (¬ x < lo ∧ ¬ hi < x) ↔ b = true) : ms_G 19 0 [.int x, .int lo, .int hi] [] σ = some (.inl (some (.int (ms_b b))), σ) := by
  by_cases h1 : x < lo
  · have : b = false := by cases b with | false => rfl | true => exact absurd h1 (h.mpr rfl).1
    subst this
    simp only [↓mi_19_0, ↓mi_19_1, ↓mi_19_2, ↓mi_19_5, ↓mi_19_6, ↓mi_19_7, ↓mi_19_10, ↓mi_19_11, ↓mi_19_14, ↓mi_19_15, ↓mi_19_15_1, ↓mi_19_15_b, if_pos h1]
    rfl
  · by_cases h2 : hi < x
    · have : b = false := by cases b with | false => rfl | true => exact absurd h2 (h.mpr rfl).2
      subst this
      simp only [↓mi_19_0, ↓mi_19_1, ↓mi_19_2, ↓mi_19_5, ↓mi_19_6, ↓mi_19_7, ↓mi_19_10, ↓mi_19_11, ↓mi_19_14, ↓mi_19_15, ↓mi_19_15_1, ↓mi_19_15_b, if_neg h1, if_pos h2]
      rfl
    · have : b = true := h.mp ⟨h1, h2⟩
      subst this
      simp only [↓mi_19_0, ↓mi_19_1, ↓mi_19_2, ↓mi_19_5, ↓mi_19_6, ↓mi_19_7, ↓mi_19_10, ↓mi_19_11, ↓mi_19_14, ↓mi_19_15, ↓mi_19_15_1, ↓mi_19_15_b, if_neg h1, if_neg h2]
      rfl
theorem sp_19s {σ : ms_M} (x : Int32) {m : Nat} (hm : m ≤ 5000) : ms_G 19 0 [.int x, .int (nI 0), .int (nI m - nI 1)] [] σ = some (.inl (some (.int (ms_b (ms_in x m)))), σ) := sp_19 (in_sub hm)
theorem sp_19c {σ : ms_M} (x : Int32) {m : Nat} (hm : m ≤ 5000) : ms_G 19 0 [.int x, .int (nI 0), .int (nI m)] [] σ = some (.inl (some (.int (ms_b (ms_in x (m + 1))))), σ) := sp_19 (in_con hm)
theorem pig : ∀ N m (f : Nat → Nat), (∀ i, i < m → f i < N) → (∀ i j, i < m → j < m → f i = f j → i = j) → m ≤ N
  | 0, m, f, h1, h2 => by
    rcases Nat.eq_zero_or_pos m with h | h
    · omega
    · exact absurd (h1 0 h) (by omega)
  | N + 1, m, f, h1, h2 => by
    by_cases hx : ∃ i, i < m ∧ f i = N
    · obtain ⟨i, hi, e⟩ := hx
      have key := pig N (m - 1) (fun j => f (if j = i then m - 1 else j)) (fun j hj => by
        by_cases hj2 : j = i
        · show f (if j = i then m - 1 else j) < N
          rw [if_pos hj2]
          have a := h1 (m - 1) (by omega)
          have b : f (m - 1) ≠ N := fun z => by
            have := h2 (m - 1) i (by omega) hi (by omega)
            omega
          omega
        · show f (if j = i then m - 1 else j) < N
          rw [if_neg hj2]
          have a := h1 j (by omega)
          have b : f j ≠ N := fun z => hj2 (h2 j i (by omega) hi (by omega))
          omega) (fun j k hj hk e2 => by
        have e3 : f (if j = i then m - 1 else j) = f (if k = i then m - 1 else k) := e2
        have e4 := h2 _ _ (by split <;> omega) (by split <;> omega) e3
        by_cases a : j = i
        · by_cases b : k = i
          · omega
          · rw [if_pos a, if_neg b] at e4; omega
        · by_cases b : k = i
          · rw [if_neg a, if_pos b] at e4; omega
          · rw [if_neg a, if_neg b] at e4; exact e4)
      omega
    · have key := pig N m f (fun j hj => by
        have a := h1 j hj
        have b : f j ≠ N := fun z => hx ⟨j, hj, z⟩
        omega) h2
      omega
theorem wl_0 {u s : Nat} (hs : s = 0) : ms_wl (7 * u + s) = 4 := by unfold ms_wl; rw [show (7 * u + s) % 7 = 0 by omega]; rfl
theorem wl_1 {u s : Nat} (hs : s = 1) : ms_wl (7 * u + s) = 64 := by unfold ms_wl; rw [show (7 * u + s) % 7 = 1 by omega]; rfl
theorem wl_2 {u s : Nat} (hs : s = 2) : ms_wl (7 * u + s) = 4 := by unfold ms_wl; rw [show (7 * u + s) % 7 = 2 by omega]; rfl
theorem wl_3 {u s : Nat} (hs : s = 3) : ms_wl (7 * u + s) = 17 := by unfold ms_wl; rw [show (7 * u + s) % 7 = 3 by omega]; rfl
theorem wl_4 {u s : Nat} (hs : s = 4) : ms_wl (7 * u + s) = 33 := by unfold ms_wl; rw [show (7 * u + s) % 7 = 4 by omega]; rfl
theorem wl_5 {u s : Nat} (hs : s = 5) : ms_wl (7 * u + s) = 65 := by unfold ms_wl; rw [show (7 * u + s) % 7 = 5 by omega]; rfl
theorem wl_6 {u s : Nat} (hs : s = 6) : ms_wl (7 * u + s) = 1 := by unfold ms_wl; rw [show (7 * u + s) % 7 = 6 by omega]; rfl
section Mail
variable {q : Nat × Nat} {w : Bool} {I : ms_i} {J : ms_j} {σ : ms_M}
theorem sp_75 : ms_G 75 0 [.ref (ms_ad 14 0)] [] (ms_Z q false I J) = some (.inl none, ms_Z q true (ms_u I 14 0 (upd (I 14 0) 2 (nI 0))) J) := by
  simp only [↓mi_75_0, ↓mi_75_1, ↓mi_75_2, ↓mi_75_5]
theorem sp_76 {m : Nat} (x : Int32) (hm : m ≤ 5000) (hS : I 14 0 2 = nI m) : ms_G 76 0 [.ref (ms_ad 14 0), .int x] [] (ms_Z q false I J) = some (.inl (some (.int (ms_b (ms_in x m)))), ms_Z q false I J) := by
  cases hb : ms_in x m with
  | false =>
    by_cases h1 : x < nI 0
    · simp only [↓mi_76_0, ↓mi_76_1, ↓mi_76_4, ↓mi_76_5, ↓mi_76_6, ↓mi_76_9, ↓mi_76_12, ↓mi_76_13, ↓mi_76_16, ↓mi_76_17, ↓mi_76_17_1, ↓mi_76_17_b, if_pos h1]
      rfl
    · have h2 : nI m ≤ x := (in_bad hm hb).resolve_left h1
      simp only [↓mi_76_0, ↓mi_76_1, ↓mi_76_4, ↓mi_76_5, ↓mi_76_6, ↓mi_76_9, ↓mi_76_12, ↓mi_76_13, ↓mi_76_16, ↓mi_76_17, ↓mi_76_17_1, ↓mi_76_17_b, if_neg h1, hS, if_pos h2]
      rfl
  | true =>
    obtain ⟨k, hk, rfl⟩ := in_nat hm hb
    simp (disch := omega) only [↓mi_76_0, ↓mi_76_1, ↓mi_76_4, ↓mi_76_5, ↓mi_76_6, ↓mi_76_9, ↓mi_76_12, ↓mi_76_13, ↓mi_76_16, ↓mi_76_17, ↓mi_76_17_1, ↓mi_76_17_b, hS, na_lt, na_le, if_neg]
    rfl
theorem sp_77 {k p : Nat} (hk : k < 56) (hp : p < 56) (hQ : I 16 0 k = nI p) : ms_G 77 0 [.ref (ms_ad 14 0), .int (nI k)] [] (ms_Z q false I J) = some (.inl (some (.ref (ms_ad 17 p))), ms_Z q false I J) := by
  simp (disch := omega) only [↓mi_77_0, ↓mi_77_1, ↓mi_77_4, ↓mi_77_5, ↓mi_77_8, ↓mi_77_9, ↓mi_77_10, ↓mi_77_11, cond_true, mz_clv, mz_cln, Bool.false_or, Bool.true_or, Bool.or_false, Bool.or_true, if_true, if_false, ite_self, o0_16, o2_15, er_15, hQ]
theorem sp_78 {k p m : Nat} (hk : k < m) (hm : m ≤ 56) (hp : p < 56) (hQ : I 16 0 k = nI p) (hS : I 14 0 2 = nI m) : ms_G 78 0 [.ref (ms_ad 14 0), .int (nI k), .null] [] (ms_Z q false I J) = some (.inl (some (.ref (ms_ad 17 p))), ms_Z q true (ms_u (ms_u I 14 0 (upd (I 14 0) 2 (nI (m - 1)))) 16 0 (va_cpy (I 16 0) (I 16 0) (k + 1) k (m - 1 - k))) J) := by
  have hc : mo_c q.1 16 0 16 0 (k + 1) k (m - 1 - k) = true := mo_c_ok rfl rfl (by decide) (by decide) (show k + 1 + (m - 1 - k) ≤ 56 by omega) (show k + (m - 1 - k) ≤ 56 by omega) (by omega) (by omega)
  have h7 := sp_77 (q := q) (J := J) (k := k) (by omega) hp hQ
  simp (disch := omega) only [↓mi_78_0, ↓mi_78_1, ↓mi_78_2, ↓mi_78_5, ↓mi_78_6, ↓mi_78_7, ↓mi_78_8, ↓mi_78_11, ↓mi_78_12, ↓mi_78_13, ↓mi_78_16, ↓mi_78_17, ↓mi_78_20, ↓mi_78_21, ↓mi_78_22, ↓mi_78_23, ↓mi_78_24, ↓mi_78_27, ↓mi_78_28, ↓mi_78_29, ↓mi_78_32, ↓mi_78_33, ↓mi_78_34, ↓mi_78_37, ↓mi_78_38, cond_true, mz_clv, mz_cln, Bool.false_or, Bool.true_or, Bool.or_false, Bool.or_true, if_true, if_false, ite_self, ms_u_s, ms_u_r, ms_u_i, ms_u_u, h7, hS, pk_sub, na_up, pk_us, hc]
theorem sp_81 {p m : Nat} (hm : m < 56) (hp : p < 56) (hS : I 14 0 2 = nI m) : ms_G 81 0 [.ref (ms_ad 14 0), .int (nI p)] [] (ms_Z q false I J) = some (.inl (some (.ref (ms_ad 18 p))), ms_Z q true (ms_u (ms_u I 16 0 (upd (I 16 0) m (nI p))) 14 0 (upd (I 14 0) 2 (nI (m + 1)))) J) := by
  simp (disch := omega) only [↓mi_81_0, ↓mi_81_1, ↓mi_81_4, ↓mi_81_5, ↓mi_81_8, ↓mi_81_9, ↓mi_81_12, ↓mi_81_13, ↓mi_81_16, ↓mi_81_17, ↓mi_81_20, ↓mi_81_21, ↓mi_81_22, ↓mi_81_23, ↓mi_81_24, ↓mi_81_27, ↓mi_81_28, ↓mi_81_29, ↓mi_81_32, ↓mi_81_33, ↓mi_81_36, ↓mi_81_37, ↓mi_81_38, ↓mi_81_41, cond_true, mz_clv, mz_cln, Bool.false_or, Bool.true_or, Bool.or_false, Bool.or_true, if_true, if_false, ite_self, ms_u_s, ms_u_r, ms_u_i, ms_u_u, o0_16, o2_15, o3_16, er_15, nr_16, hS, na_le, na_up, if_neg]
theorem sp_79 {u s m : Nat} (hm : m < 56) (hu : u < 8) (hs : s < 4) (hS : I 14 0 2 = nI m) : ms_G 79 0 [.ref (ms_ad 14 0), .int (nI u), .int (nI s)] [] (ms_Z q false I J) = some (.inl (some (.ref (ms_ad 18 (7 * u + s)))), ms_Z q true (ms_u (ms_u I 16 0 (upd (I 16 0) m (nI (7 * u + s)))) 14 0 (upd (I 14 0) 2 (nI (m + 1)))) J) := by
  have h := sp_81 (q := q) (J := J) (p := 7 * u + s) hm (by omega) hS
  simp (disch := omega) only [↓mi_79_0, ↓mi_79_1, ↓mi_79_2, ↓mi_79_4, ↓mi_79_5, ↓mi_79_6, ↓mi_79_7, ↓mi_79_10, cond_true, mz_clv, mz_cln, Bool.false_or, Bool.true_or, Bool.or_false, Bool.or_true, if_true, if_false, ite_self, pk_mul, na_up, Nat.mul_comm u 7, h]
theorem sp_80 {u s m : Nat} (hm : m < 56) (hu : u < 8) (hs : s < 3) (hS : I 14 0 2 = nI m) : ms_G 80 0 [.ref (ms_ad 14 0), .int (nI u), .int (nI s)] [] (ms_Z q false I J) = some (.inl (some (.ref (ms_ad 18 (7 * u + 4 + s)))), ms_Z q true (ms_u (ms_u I 16 0 (upd (I 16 0) m (nI (7 * u + 4 + s)))) 14 0 (upd (I 14 0) 2 (nI (m + 1)))) J) := by
  have h := sp_81 (q := q) (J := J) (p := 7 * u + 4 + s) hm (by omega) hS
  simp (disch := omega) only [↓mi_80_0, ↓mi_80_1, ↓mi_80_2, ↓mi_80_4, ↓mi_80_5, ↓mi_80_6, ↓mi_80_7, ↓mi_80_8, ↓mi_80_9, ↓mi_80_12, cond_true, mz_clv, mz_cln, Bool.false_or, Bool.true_or, Bool.or_false, Bool.or_true, if_true, if_false, ite_self, pk_mul, na_up, Nat.mul_comm u 7, h]
-- the model's
def ms_zr (m k : Nat) (f : Nat → Int32) : Nat → Int32 := fun i => if 70 * m ≤ i ∧ i < 70 * m + k then nI 0 else f i
theorem ms_zr_s (m k : Nat) (f : Nat → Int32) : upd (ms_zr m k f) (70 * m + k) (nI 0) = ms_zr m (k + 1) f := by
  funext i
  unfold upd ms_zr
  by_cases h : i = 70 * m + k
  · rw [if_pos h, if_pos (by omega)]
  · rw [if_neg h]
    by_cases h2 : 70 * m ≤ i ∧ i < 70 * m + k
    · rw [if_pos h2, if_pos (by omega)]
    · rw [if_neg h2, if_neg (by omega)]
theorem ms_zr_0 (m : Nat) (f : Nat → Int32) : ms_zr m 0 f = f := by
  funext i
  exact if_neg (by omega)
def ms_po (m s u b l : Nat) (f : Nat → Int32) : Nat → Int32 := upd (upd (upd (upd (ms_zr m 70 f) (70 * m) (nI s)) (70 * m + 1) (nI u)) (70 * m + 2) (nI b)) (70 * m + 3) (nI l)
theorem po_0 {m s u b l : Nat} {f : Nat → Int32} : ms_po m s u b l f (70 * m) = nI s := by
  unfold ms_po
  rw [pk_un (by omega), pk_un (by omega), pk_un (by omega), pk_us]
theorem po_1 {m s u b l : Nat} {f : Nat → Int32} : ms_po m s u b l f (70 * m + 1) = nI u := by
  unfold ms_po
  rw [pk_un (by omega), pk_un (by omega), pk_us]
theorem po_2 {m s u b l : Nat} {f : Nat → Int32} : ms_po m s u b l f (70 * m + 2) = nI b := by
  unfold ms_po
  rw [pk_un (by omega), pk_us]
theorem po_3 {m s u b l : Nat} {f : Nat → Int32} : ms_po m s u b l f (70 * m + 3) = nI l := by
  unfold ms_po
  rw [pk_us]
theorem po_z {m s u b l i : Nat} {f : Nat → Int32} (h : i < 66) : ms_po m s u b l f (70 * m + 4 + i) = nI 0 := by
  unfold ms_po
  rw [pk_un (by omega), pk_un (by omega), pk_un (by omega), pk_un (by omega)]
  exact if_pos (by omega)
theorem po_o {m s u b l i : Nat} {f : Nat → Int32} (h : i < 70 * m ∨ 70 * m + 70 ≤ i) : ms_po m s u b l f i = f i := by
  unfold ms_po
  rw [pk_un (by omega), pk_un (by omega), pk_un (by omega), pk_un (by omega)]
  exact if_neg (by omega)
theorem po_l {m : Nat} (hm : m < 56) {f : Nat → Int32} {l1 l2 l3 l4 : Value} : ∀ d k w, d + k = 70 → ms_G 40 12 [.ref (ms_ad 40 0), l1, l2, l3, l4, .int (nI (70 * m)), .int (nI k)] [] (ms_Z q w (ms_u I 56 0 (ms_zr m k f)) J) = ms_G 40 36 [.ref (ms_ad 40 0), l1, l2, l3, l4, .int (nI (70 * m)), .int (nI 70)] [] (ms_Z q (w || decide (0 < d)) (ms_u I 56 0 (ms_zr m 70 f)) J)
  | 0, k, w, hk => by
    have : k = 70 := by omega
    subst this
    simp (disch := omega) only [↓mi_40_12, ↓mi_40_14, ↓mi_40_16, na_le, if_pos, Nat.lt_irrefl, decide_false, Bool.or_false]
  | d + 1, k, w, hk => by
    have ih := po_l hm (f := f) (l1 := l1) (l2 := l2) (l3 := l3) (l4 := l4) d (k + 1) true (by omega)
    have es := ms_zr_s m k f
    rw [mi_40_12]
    simp (disch := omega) only [↓mi_40_14, ↓mi_40_16, ↓mi_40_19, ↓mi_40_20, ↓mi_40_23, ↓mi_40_25, ↓mi_40_27, ↓mi_40_28, ↓mi_40_29, ↓mi_40_30, ↓mi_40_33, cond_true, mz_clv, mz_cln, Bool.false_or, Bool.true_or, Bool.or_false, Bool.or_true, if_true, if_false, ite_self, ms_u_s, ms_u_r, ms_u_i, ms_u_u, o0_56, na_le, na_up, if_neg, es]
    refine ih.trans ?_
    simp
theorem sp_40 {s u b l m : Nat} (hm : m < 56) (hb : b < 2) (hS : I 40 0 20 = nI m) : ms_G 40 0 [.ref (ms_ad 40 0), .int (nI s), .int (nI u), .int (nI b), .int (nI l), .null, .null] [] (ms_Z q false I J) = some (.inl (some (.int (nI (70 * m + 4)))), ms_Z q true (ms_u (ms_u I 56 0 (ms_po m s u b l (I 56 0))) 40 0 (upd (I 40 0) 20 (nI (m + 1)))) J) := by
  have h := po_l (q := q) (I := I) (J := J) hm (f := I 56 0) (l1 := .int (nI s)) (l2 := .int (nI u)) (l3 := .int (nI b)) (l4 := .int (nI l)) 70 0 false rfl
  rw [ms_zr_0, ms_u_id] at h
  simp (disch := omega) only [↓mi_40_0, ↓mi_40_2, ↓mi_40_3, ↓mi_40_6, ↓mi_40_7, ↓mi_40_9, ↓mi_40_10, hS, pk_mul]
  rw [h]
  have hb2 : b = 0 ∨ b = 1 := by omega
  rcases hb2 with hb2 | hb2
  · subst hb2
    simp (disch := omega) only [↓mi_40_36, ↓mi_40_37, ↓mi_40_40, ↓mi_40_42, ↓mi_40_43, ↓mi_40_44, ↓mi_40_45, ↓mi_40_48, ↓mi_40_50, ↓mi_40_51, ↓mi_40_52, ↓mi_40_53, ↓mi_40_54, ↓mi_40_55, ↓mi_40_58, ↓mi_40_60, ↓mi_40_61, ↓mi_40_62, ↓mi_40_63, ↓mi_40_66, ↓mi_40_67, ↓mi_40_70, ↓mi_40_71, ↓mi_40_72, ↓mi_40_73, ↓mi_40_76, ↓mi_40_78, ↓mi_40_79, ↓mi_40_80, ↓mi_40_82, ↓mi_40_83, ↓mi_40_84, ↓mi_40_85, ↓mi_40_88, ↓mi_40_89, ↓mi_40_90, ↓mi_40_93, ↓mi_40_95, ↓mi_40_96, ↓mi_40_97, cond_true, mz_clv, mz_cln, Bool.false_or, Bool.true_or, Bool.or_false, Bool.or_true, if_true, if_false, ite_self, ms_u_s, ms_u_r, ms_u_i, ms_u_u, o0_56, na_up, na_eq, if_pos, hS]
    rfl
  · subst hb2
    simp (disch := omega) only [↓mi_40_36, ↓mi_40_37, ↓mi_40_40, ↓mi_40_42, ↓mi_40_43, ↓mi_40_44, ↓mi_40_45, ↓mi_40_48, ↓mi_40_50, ↓mi_40_51, ↓mi_40_52, ↓mi_40_53, ↓mi_40_54, ↓mi_40_55, ↓mi_40_58, ↓mi_40_60, ↓mi_40_61, ↓mi_40_62, ↓mi_40_63, ↓mi_40_66, ↓mi_40_67, ↓mi_40_70, ↓mi_40_71, ↓mi_40_72, ↓mi_40_73, ↓mi_40_76, ↓mi_40_78, ↓mi_40_79, ↓mi_40_80, ↓mi_40_82, ↓mi_40_83, ↓mi_40_84, ↓mi_40_85, ↓mi_40_88, ↓mi_40_89, ↓mi_40_90, ↓mi_40_93, ↓mi_40_95, ↓mi_40_96, ↓mi_40_97, cond_true, mz_clv, mz_cln, Bool.false_or, Bool.true_or, Bool.or_false, Bool.or_true, if_true, if_false, ite_self, ms_u_s, ms_u_r, ms_u_i, ms_u_u, o0_56, na_up, na_eq, if_neg, hS]
    rfl
def ms_to (a b : Nat) (f : Nat → Int32) : Nat → Int32 := fun i => if a ≤ i ∧ i < b then f (i + 70) else f i
theorem ms_to_s {a b : Nat} (h : a ≤ b) (f : Nat → Int32) : upd (ms_to a b f) b (ms_to a b f (b + 70)) = ms_to a (b + 1) f := by
  funext i
  unfold upd ms_to
  by_cases h1 : i = b
  · rw [if_pos h1, if_neg (by omega), if_pos (by omega), h1]
  · rw [if_neg h1]
    by_cases h2 : a ≤ i ∧ i < b
    · rw [if_pos h2, if_pos (by omega)]
    · rw [if_neg h2, if_neg (by omega)]
theorem ms_to_0 (a : Nat) (f : Nat → Int32) : ms_to a a f = f := by
  funext i
  exact if_neg (by omega)
theorem to_l {a m : Nat} (hm : m ≤ 56) (h1 : 1 ≤ m) (hS : I 40 0 20 = nI m) {f : Nat → Int32} {y : Int32} : ∀ d b w, a ≤ b → d + b = 70 * m - 70 → ms_G 41 5 [.ref (ms_ad 40 0), .int y, .int (nI b)] [] (ms_Z q w (ms_u I 56 0 (ms_to a b f)) J) = some (.inl none, ms_Z q true (ms_u (ms_u I 56 0 (ms_to a (70 * m - 70) f)) 40 0 (upd (I 40 0) 20 (nI (m - 1)))) J)
  | 0, b, w, ha, hb => by
    have : b = 70 * m - 70 := by omega
    subst this
    simp (disch := omega) only [↓mi_41_5, ↓mi_41_6, ↓mi_41_8, ↓mi_41_9, ↓mi_41_12, ↓mi_41_13, ↓mi_41_15, ↓mi_41_16, ↓mi_41_40, ↓mi_41_41, ↓mi_41_42, ↓mi_41_45, ↓mi_41_46, ↓mi_41_47, ↓mi_41_50, ms_u_s, ms_u_r, ms_u_i, ms_u_u, hS, pk_mul, pk_sub, na_le, if_pos]
  | d + 1, b, w, ha, hb => by
    have ih := to_l (a := a) (y := y) hm h1 hS (f := f) d (b + 1) true (by omega) (by omega)
    have es := ms_to_s ha f
    rw [mi_41_5]
    simp (disch := omega) only [↓mi_41_6, ↓mi_41_8, ↓mi_41_9, ↓mi_41_12, ↓mi_41_13, ↓mi_41_15, ↓mi_41_16, ↓mi_41_19, ↓mi_41_20, ↓mi_41_23, ↓mi_41_24, ↓mi_41_25, ↓mi_41_28, ↓mi_41_29, ↓mi_41_31, ↓mi_41_32, ↓mi_41_33, ↓mi_41_34, ↓mi_41_37, cond_true, mz_clv, mz_cln, Bool.false_or, Bool.true_or, Bool.or_false, Bool.or_true, if_true, if_false, ite_self, ms_u_s, ms_u_r, ms_u_i, ms_u_u, o0_56, hS, pk_mul, pk_sub, na_le, na_up, if_neg, es]
    exact ih
theorem sp_41 {k m : Nat} (hk : k < m) (hm : m ≤ 56) (hS : I 40 0 20 = nI m) : ms_G 41 0 [.ref (ms_ad 40 0), .int (nI k), .null] [] (ms_Z q false I J) = some (.inl none, ms_Z q true (ms_u (ms_u I 56 0 (ms_to (70 * k) (70 * m - 70) (I 56 0))) 40 0 (upd (I 40 0) 20 (nI (m - 1)))) J) := by
  have h := to_l (q := q) (J := J) (a := 70 * k) (y := nI k) hm (by omega) hS (f := I 56 0) (70 * m - 70 - 70 * k) (70 * k) false (Nat.le_refl _) (by omega)
  rw [ms_to_0, ms_u_id] at h
  simp (disch := omega) only [↓mi_41_0, ↓mi_41_2, ↓mi_41_3, ↓mi_41_4, pk_mul]
  exact h
theorem sp_44 {at' v : Nat} (ha : at' + 1 < 4480) (hv : v < 4611686018427387904) : ms_G 44 0 [.ref (ms_ad 40 0), .int (nI at'), .long (lN v), .null] [] (ms_Z q false I J) = some (.inl none, ms_Z q true (ms_u I 56 0 (upd (upd (I 56 0) at' (nI v)) (at' + 1) (nI (v / 4294967296)))) J) := by
  have e : lN v >>> ((nI 32).toInt64 &&& 63) = lN (v / 4294967296) := la_shr hv (by decide)
  simp (disch := omega) only [↓mi_44_0, ↓mi_44_1, ↓mi_44_4, ↓mi_44_5, ↓mi_44_6, ↓mi_44_7, ↓mi_44_8, ↓mi_44_9, ↓mi_44_12, ↓mi_44_13, ↓mi_44_14, ↓mi_44_15, ↓mi_44_16, ↓mi_44_18, ↓mi_44_19, ↓mi_44_20, ↓mi_44_21, cond_true, mz_clv, mz_cln, Bool.false_or, Bool.true_or, Bool.or_false, Bool.or_true, if_true, if_false, ite_self, ms_u_s, ms_u_r, ms_u_i, ms_u_u, o0_56, na_up, lN_i, e]
end Mail
